theorem dX2_init_0 : decode cX2_init 0 = .ok (.aload_n 0, 1) := by decide +kernel
theorem dX2_init_1 : decode cX2_init 1 = .ok (.invokespecial 3, 3) := by decide +kernel
theorem dX2_init_4 : decode cX2_init 4 = .ok (.aload_n 0, 1) := by decide +kernel
theorem dX2_init_5 : decode cX2_init 5 = .ok (.sipush 150, 3) := by decide +kernel
theorem dX2_init_8 : decode cX2_init 8 = .ok (.newarray .int, 2) := by decide +kernel
theorem dX2_init_10 : decode cX2_init 10 = .ok (.putfield 9, 3) := by decide +kernel
theorem dX2_init_13 : decode cX2_init 13 = .ok (.aload_n 0, 1) := by decide +kernel
theorem dX2_init_14 : decode cX2_init 14 = .ok (.iconst 0, 1) := by decide +kernel
theorem dX2_init_15 : decode cX2_init 15 = .ok (.putfield 15, 3) := by decide +kernel
theorem dX2_init_18 : decode cX2_init 18 = .ok (.aload_n 0, 1) := by decide +kernel
theorem dX2_init_19 : decode cX2_init 19 = .ok (.iconst 3, 1) := by decide +kernel
theorem dX2_init_20 : decode cX2_init 20 = .ok (.newarray .int, 2) := by decide +kernel
theorem dX2_init_22 : decode cX2_init 22 = .ok (.putfield 19, 3) := by decide +kernel
theorem dX2_init_25 : decode cX2_init 25 = .ok (.aload_n 0, 1) := by decide +kernel
theorem dX2_init_26 : decode cX2_init 26 = .ok (.iconst 0, 1) := by decide +kernel
theorem dX2_init_27 : decode cX2_init 27 = .ok (.putfield 22, 3) := by decide +kernel
theorem dX2_init_30 : decode cX2_init 30 = .ok (.aload_n 0, 1) := by decide +kernel
theorem dX2_init_31 : decode cX2_init 31 = .ok (.iconst (-1), 1) := by decide +kernel
theorem dX2_init_32 : decode cX2_init 32 = .ok (.putfield 25, 3) := by decide +kernel
theorem dX2_init_35 : decode cX2_init 35 = .ok (.return_, 1) := by decide +kernel
theorem dX2_append_0 : decode cX2_append 0 = .ok (.aload_n 0, 1) := by decide +kernel
theorem dX2_append_1 : decode cX2_append 1 = .ok (.getfield 15, 3) := by decide +kernel
theorem dX2_append_4 : decode cX2_append 4 = .ok (.sipush 150, 3) := by decide +kernel
theorem dX2_append_7 : decode cX2_append 7 = .ok (.if_icmp .lt 5, 3) := by decide +kernel
theorem dX2_append_10 : decode cX2_append 10 = .ok (.iconst 0, 1) := by decide +kernel
theorem dX2_append_11 : decode cX2_append 11 = .ok (.ireturn, 1) := by decide +kernel
theorem dX2_append_12 : decode cX2_append 12 = .ok (.aload_n 0, 1) := by decide +kernel
theorem dX2_append_13 : decode cX2_append 13 = .ok (.getfield 9, 3) := by decide +kernel
theorem dX2_append_16 : decode cX2_append 16 = .ok (.aload_n 0, 1) := by decide +kernel
theorem dX2_append_17 : decode cX2_append 17 = .ok (.getfield 15, 3) := by decide +kernel
theorem dX2_append_20 : decode cX2_append 20 = .ok (.iload_n 1, 1) := by decide +kernel
theorem dX2_append_21 : decode cX2_append 21 = .ok (.iastore, 1) := by decide +kernel
theorem dX2_append_22 : decode cX2_append 22 = .ok (.aload_n 0, 1) := by decide +kernel
theorem dX2_append_23 : decode cX2_append 23 = .ok (.dup, 1) := by decide +kernel
theorem dX2_append_24 : decode cX2_append 24 = .ok (.getfield 15, 3) := by decide +kernel
theorem dX2_append_27 : decode cX2_append 27 = .ok (.iconst 1, 1) := by decide +kernel
theorem dX2_append_28 : decode cX2_append 28 = .ok (.iadd, 1) := by decide +kernel
theorem dX2_append_29 : decode cX2_append 29 = .ok (.putfield 15, 3) := by decide +kernel
theorem dX2_append_32 : decode cX2_append 32 = .ok (.iconst 1, 1) := by decide +kernel
theorem dX2_append_33 : decode cX2_append 33 = .ok (.ireturn, 1) := by decide +kernel
theorem dX2_findFault_0 : decode cX2_findFault 0 = .ok (.aload_n 0, 1) := by decide +kernel
theorem dX2_findFault_1 : decode cX2_findFault 1 = .ok (.invokevirtual 28, 3) := by decide +kernel
theorem dX2_findFault_4 : decode cX2_findFault 4 = .ok (.aload_n 0, 1) := by decide +kernel
theorem dX2_findFault_5 : decode cX2_findFault 5 = .ok (.invokevirtual 31, 3) := by decide +kernel
theorem dX2_findFault_8 : decode cX2_findFault 8 = .ok (.astore_n 1, 1) := by decide +kernel
theorem dX2_findFault_9 : decode cX2_findFault 9 = .ok (.iconst 0, 1) := by decide +kernel
theorem dX2_findFault_10 : decode cX2_findFault 10 = .ok (.istore_n 2, 1) := by decide +kernel
theorem dX2_findFault_11 : decode cX2_findFault 11 = .ok (.iload_n 2, 1) := by decide +kernel
theorem dX2_findFault_12 : decode cX2_findFault 12 = .ok (.sipush 150, 3) := by decide +kernel
theorem dX2_findFault_15 : decode cX2_findFault 15 = .ok (.if_icmp .ge 18, 3) := by decide +kernel
theorem dX2_findFault_18 : decode cX2_findFault 18 = .ok (.aload_n 1, 1) := by decide +kernel
theorem dX2_findFault_19 : decode cX2_findFault 19 = .ok (.ifnull 14, 3) := by decide +kernel
theorem dX2_findFault_22 : decode cX2_findFault 22 = .ok (.aload_n 0, 1) := by decide +kernel
theorem dX2_findFault_23 : decode cX2_findFault 23 = .ok (.invokevirtual 31, 3) := by decide +kernel
theorem dX2_findFault_26 : decode cX2_findFault 26 = .ok (.astore_n 1, 1) := by decide +kernel
theorem dX2_findFault_27 : decode cX2_findFault 27 = .ok (.iinc 2 1, 3) := by decide +kernel
theorem dX2_findFault_30 : decode cX2_findFault 30 = .ok (.goto (-19), 3) := by decide +kernel
theorem dX2_findFault_33 : decode cX2_findFault 33 = .ok (.aload_n 0, 1) := by decide +kernel
theorem dX2_findFault_34 : decode cX2_findFault 34 = .ok (.getfield 25, 3) := by decide +kernel
theorem dX2_findFault_37 : decode cX2_findFault 37 = .ok (.ireturn, 1) := by decide +kernel
theorem dX2_rewind_0 : decode cX2_rewind 0 = .ok (.aload_n 0, 1) := by decide +kernel
theorem dX2_rewind_1 : decode cX2_rewind 1 = .ok (.iconst 0, 1) := by decide +kernel
theorem dX2_rewind_2 : decode cX2_rewind 2 = .ok (.putfield 22, 3) := by decide +kernel
theorem dX2_rewind_5 : decode cX2_rewind 5 = .ok (.aload_n 0, 1) := by decide +kernel
theorem dX2_rewind_6 : decode cX2_rewind 6 = .ok (.iconst (-1), 1) := by decide +kernel
theorem dX2_rewind_7 : decode cX2_rewind 7 = .ok (.putfield 25, 3) := by decide +kernel
theorem dX2_rewind_10 : decode cX2_rewind 10 = .ok (.return_, 1) := by decide +kernel
theorem dX2_readCommand_0 : decode cX2_readCommand 0 = .ok (.aload_n 0, 1) := by decide +kernel
theorem dX2_readCommand_1 : decode cX2_readCommand 1 = .ok (.invokevirtual 35, 3) := by decide +kernel
theorem dX2_readCommand_4 : decode cX2_readCommand 4 = .ok (.pop, 1) := by decide +kernel
theorem dX2_readCommand_5 : decode cX2_readCommand 5 = .ok (.aload_n 0, 1) := by decide +kernel
theorem dX2_readCommand_6 : decode cX2_readCommand 6 = .ok (.invokevirtual 39, 3) := by decide +kernel
theorem dX2_readCommand_9 : decode cX2_readCommand 9 = .ok (.iconst (-1), 1) := by decide +kernel
theorem dX2_readCommand_10 : decode cX2_readCommand 10 = .ok (.if_icmp .ne 5, 3) := by decide +kernel
theorem dX2_readCommand_13 : decode cX2_readCommand 13 = .ok (.aconst_null, 1) := by decide +kernel
theorem dX2_readCommand_14 : decode cX2_readCommand 14 = .ok (.areturn, 1) := by decide +kernel
theorem dX2_readCommand_15 : decode cX2_readCommand 15 = .ok (.aload_n 0, 1) := by decide +kernel
theorem dX2_readCommand_16 : decode cX2_readCommand 16 = .ok (.getfield 22, 3) := by decide +kernel
theorem dX2_readCommand_19 : decode cX2_readCommand 19 = .ok (.istore_n 1, 1) := by decide +kernel
theorem dX2_readCommand_20 : decode cX2_readCommand 20 = .ok (.aload_n 0, 1) := by decide +kernel
theorem dX2_readCommand_21 : decode cX2_readCommand 21 = .ok (.invokevirtual 43, 3) := by decide +kernel
theorem dX2_readCommand_24 : decode cX2_readCommand 24 = .ok (.astore_n 2, 1) := by decide +kernel
theorem dX2_readCommand_25 : decode cX2_readCommand 25 = .ok (.aload_n 2, 1) := by decide +kernel
theorem dX2_readCommand_26 : decode cX2_readCommand 26 = .ok (.ifnonnull 10, 3) := by decide +kernel
theorem dX2_readCommand_29 : decode cX2_readCommand 29 = .ok (.aload_n 0, 1) := by decide +kernel
theorem dX2_readCommand_30 : decode cX2_readCommand 30 = .ok (.iload_n 1, 1) := by decide +kernel
theorem dX2_readCommand_31 : decode cX2_readCommand 31 = .ok (.putfield 25, 3) := by decide +kernel
theorem dX2_readCommand_34 : decode cX2_readCommand 34 = .ok (.aconst_null, 1) := by decide +kernel
theorem dX2_readCommand_35 : decode cX2_readCommand 35 = .ok (.areturn, 1) := by decide +kernel
theorem dX2_readCommand_36 : decode cX2_readCommand 36 = .ok (.aload_n 0, 1) := by decide +kernel
theorem dX2_readCommand_37 : decode cX2_readCommand 37 = .ok (.aload_n 2, 1) := by decide +kernel
theorem dX2_readCommand_38 : decode cX2_readCommand 38 = .ok (.getfield 46, 3) := by decide +kernel
theorem dX2_readCommand_41 : decode cX2_readCommand 41 = .ok (.invokevirtual 51, 3) := by decide +kernel
theorem dX2_readCommand_44 : decode cX2_readCommand 44 = .ok (.ifCond .eq 10, 3) := by decide +kernel
theorem dX2_readCommand_47 : decode cX2_readCommand 47 = .ok (.aload_n 0, 1) := by decide +kernel
theorem dX2_readCommand_48 : decode cX2_readCommand 48 = .ok (.invokevirtual 55, 3) := by decide +kernel
theorem dX2_readCommand_51 : decode cX2_readCommand 51 = .ok (.ifCond .ne 13, 3) := by decide +kernel
theorem dX2_readCommand_54 : decode cX2_readCommand 54 = .ok (.aload_n 0, 1) := by decide +kernel
theorem dX2_readCommand_55 : decode cX2_readCommand 55 = .ok (.aload_n 0, 1) := by decide +kernel
theorem dX2_readCommand_56 : decode cX2_readCommand 56 = .ok (.getfield 22, 3) := by decide +kernel
theorem dX2_readCommand_59 : decode cX2_readCommand 59 = .ok (.putfield 25, 3) := by decide +kernel
theorem dX2_readCommand_62 : decode cX2_readCommand 62 = .ok (.aconst_null, 1) := by decide +kernel
theorem dX2_readCommand_63 : decode cX2_readCommand 63 = .ok (.areturn, 1) := by decide +kernel
theorem dX2_readCommand_64 : decode cX2_readCommand 64 = .ok (.aload_n 2, 1) := by decide +kernel
theorem dX2_readCommand_65 : decode cX2_readCommand 65 = .ok (.areturn, 1) := by decide +kernel
theorem dX2_peek_0 : decode cX2_peek 0 = .ok (.aload_n 0, 1) := by decide +kernel
theorem dX2_peek_1 : decode cX2_peek 1 = .ok (.getfield 22, 3) := by decide +kernel
theorem dX2_peek_4 : decode cX2_peek 4 = .ok (.aload_n 0, 1) := by decide +kernel
theorem dX2_peek_5 : decode cX2_peek 5 = .ok (.getfield 15, 3) := by decide +kernel
theorem dX2_peek_8 : decode cX2_peek 8 = .ok (.if_icmp .ge 25, 3) := by decide +kernel
theorem dX2_peek_11 : decode cX2_peek 11 = .ok (.aload_n 0, 1) := by decide +kernel
theorem dX2_peek_12 : decode cX2_peek 12 = .ok (.getfield 22, 3) := by decide +kernel
theorem dX2_peek_15 : decode cX2_peek 15 = .ok (.sipush 150, 3) := by decide +kernel
theorem dX2_peek_18 : decode cX2_peek 18 = .ok (.if_icmp .ge 15, 3) := by decide +kernel
theorem dX2_peek_21 : decode cX2_peek 21 = .ok (.aload_n 0, 1) := by decide +kernel
theorem dX2_peek_22 : decode cX2_peek 22 = .ok (.getfield 9, 3) := by decide +kernel
theorem dX2_peek_25 : decode cX2_peek 25 = .ok (.aload_n 0, 1) := by decide +kernel
theorem dX2_peek_26 : decode cX2_peek 26 = .ok (.getfield 22, 3) := by decide +kernel
theorem dX2_peek_29 : decode cX2_peek 29 = .ok (.iaload, 1) := by decide +kernel
theorem dX2_peek_30 : decode cX2_peek 30 = .ok (.goto 4, 3) := by decide +kernel
theorem dX2_peek_33 : decode cX2_peek 33 = .ok (.iconst (-1), 1) := by decide +kernel
theorem dX2_peek_34 : decode cX2_peek 34 = .ok (.ireturn, 1) := by decide +kernel
theorem dX2_isAtLetter_0 : decode cX2_isAtLetter 0 = .ok (.aload_n 0, 1) := by decide +kernel
theorem dX2_isAtLetter_1 : decode cX2_isAtLetter 1 = .ok (.invokevirtual 39, 3) := by decide +kernel
theorem dX2_isAtLetter_4 : decode cX2_isAtLetter 4 = .ok (.bipush 97, 2) := by decide +kernel
theorem dX2_isAtLetter_6 : decode cX2_isAtLetter 6 = .ok (.bipush 122, 2) := by decide +kernel
theorem dX2_isAtLetter_8 : decode cX2_isAtLetter 8 = .ok (.invokestatic 58, 3) := by decide +kernel
theorem dX2_isAtLetter_11 : decode cX2_isAtLetter 11 = .ok (.ireturn, 1) := by decide +kernel
theorem dX2_isAtDigit_0 : decode cX2_isAtDigit 0 = .ok (.aload_n 0, 1) := by decide +kernel
theorem dX2_isAtDigit_1 : decode cX2_isAtDigit 1 = .ok (.invokevirtual 39, 3) := by decide +kernel
theorem dX2_isAtDigit_4 : decode cX2_isAtDigit 4 = .ok (.bipush 48, 2) := by decide +kernel
theorem dX2_isAtDigit_6 : decode cX2_isAtDigit 6 = .ok (.bipush 57, 2) := by decide +kernel
theorem dX2_isAtDigit_8 : decode cX2_isAtDigit 8 = .ok (.invokestatic 58, 3) := by decide +kernel
theorem dX2_isAtDigit_11 : decode cX2_isAtDigit 11 = .ok (.ireturn, 1) := by decide +kernel
theorem dX2_skipSpaces_0 : decode cX2_skipSpaces 0 = .ok (.aload_n 0, 1) := by decide +kernel
theorem dX2_skipSpaces_1 : decode cX2_skipSpaces 1 = .ok (.getfield 22, 3) := by decide +kernel
theorem dX2_skipSpaces_4 : decode cX2_skipSpaces 4 = .ok (.istore_n 1, 1) := by decide +kernel
theorem dX2_skipSpaces_5 : decode cX2_skipSpaces 5 = .ok (.aload_n 0, 1) := by decide +kernel
theorem dX2_skipSpaces_6 : decode cX2_skipSpaces 6 = .ok (.getfield 22, 3) := by decide +kernel
theorem dX2_skipSpaces_9 : decode cX2_skipSpaces 9 = .ok (.aload_n 0, 1) := by decide +kernel
theorem dX2_skipSpaces_10 : decode cX2_skipSpaces 10 = .ok (.getfield 15, 3) := by decide +kernel
theorem dX2_skipSpaces_13 : decode cX2_skipSpaces 13 = .ok (.if_icmp .ge 25, 3) := by decide +kernel
theorem dX2_skipSpaces_16 : decode cX2_skipSpaces 16 = .ok (.aload_n 0, 1) := by decide +kernel
theorem dX2_skipSpaces_17 : decode cX2_skipSpaces 17 = .ok (.invokevirtual 39, 3) := by decide +kernel
theorem dX2_skipSpaces_20 : decode cX2_skipSpaces 20 = .ok (.bipush 32, 2) := by decide +kernel
theorem dX2_skipSpaces_22 : decode cX2_skipSpaces 22 = .ok (.if_icmp .ne 16, 3) := by decide +kernel
theorem dX2_skipSpaces_25 : decode cX2_skipSpaces 25 = .ok (.aload_n 0, 1) := by decide +kernel
theorem dX2_skipSpaces_26 : decode cX2_skipSpaces 26 = .ok (.dup, 1) := by decide +kernel
theorem dX2_skipSpaces_27 : decode cX2_skipSpaces 27 = .ok (.getfield 22, 3) := by decide +kernel
theorem dX2_skipSpaces_30 : decode cX2_skipSpaces 30 = .ok (.iconst 1, 1) := by decide +kernel
theorem dX2_skipSpaces_31 : decode cX2_skipSpaces 31 = .ok (.iadd, 1) := by decide +kernel
theorem dX2_skipSpaces_32 : decode cX2_skipSpaces 32 = .ok (.putfield 22, 3) := by decide +kernel
theorem dX2_skipSpaces_35 : decode cX2_skipSpaces 35 = .ok (.goto (-30), 3) := by decide +kernel
theorem dX2_skipSpaces_38 : decode cX2_skipSpaces 38 = .ok (.aload_n 0, 1) := by decide +kernel
theorem dX2_skipSpaces_39 : decode cX2_skipSpaces 39 = .ok (.getfield 22, 3) := by decide +kernel
theorem dX2_skipSpaces_42 : decode cX2_skipSpaces 42 = .ok (.iload_n 1, 1) := by decide +kernel
theorem dX2_skipSpaces_43 : decode cX2_skipSpaces 43 = .ok (.if_icmp .le 7, 3) := by decide +kernel
theorem dX2_skipSpaces_46 : decode cX2_skipSpaces 46 = .ok (.iconst 1, 1) := by decide +kernel
theorem dX2_skipSpaces_47 : decode cX2_skipSpaces 47 = .ok (.goto 4, 3) := by decide +kernel
theorem dX2_skipSpaces_50 : decode cX2_skipSpaces 50 = .ok (.iconst 0, 1) := by decide +kernel
theorem dX2_skipSpaces_51 : decode cX2_skipSpaces 51 = .ok (.ireturn, 1) := by decide +kernel
theorem dX2_readWord_0 : decode cX2_readWord 0 = .ok (.aload_n 0, 1) := by decide +kernel
theorem dX2_readWord_1 : decode cX2_readWord 1 = .ok (.getfield 22, 3) := by decide +kernel
theorem dX2_readWord_4 : decode cX2_readWord 4 = .ok (.istore_n 1, 1) := by decide +kernel
theorem dX2_readWord_5 : decode cX2_readWord 5 = .ok (.aload_n 0, 1) := by decide +kernel
theorem dX2_readWord_6 : decode cX2_readWord 6 = .ok (.getfield 22, 3) := by decide +kernel
theorem dX2_readWord_9 : decode cX2_readWord 9 = .ok (.aload_n 0, 1) := by decide +kernel
theorem dX2_readWord_10 : decode cX2_readWord 10 = .ok (.getfield 15, 3) := by decide +kernel
theorem dX2_readWord_13 : decode cX2_readWord 13 = .ok (.if_icmp .ge 23, 3) := by decide +kernel
theorem dX2_readWord_16 : decode cX2_readWord 16 = .ok (.aload_n 0, 1) := by decide +kernel
theorem dX2_readWord_17 : decode cX2_readWord 17 = .ok (.invokevirtual 62, 3) := by decide +kernel
theorem dX2_readWord_20 : decode cX2_readWord 20 = .ok (.ifCond .eq 16, 3) := by decide +kernel
theorem dX2_readWord_23 : decode cX2_readWord 23 = .ok (.aload_n 0, 1) := by decide +kernel
theorem dX2_readWord_24 : decode cX2_readWord 24 = .ok (.dup, 1) := by decide +kernel
theorem dX2_readWord_25 : decode cX2_readWord 25 = .ok (.getfield 22, 3) := by decide +kernel
theorem dX2_readWord_28 : decode cX2_readWord 28 = .ok (.iconst 1, 1) := by decide +kernel
theorem dX2_readWord_29 : decode cX2_readWord 29 = .ok (.iadd, 1) := by decide +kernel
theorem dX2_readWord_30 : decode cX2_readWord 30 = .ok (.putfield 22, 3) := by decide +kernel
theorem dX2_readWord_33 : decode cX2_readWord 33 = .ok (.goto (-28), 3) := by decide +kernel
theorem dX2_readWord_36 : decode cX2_readWord 36 = .ok (.iconst 0, 1) := by decide +kernel
theorem dX2_readWord_37 : decode cX2_readWord 37 = .ok (.istore_n 2, 1) := by decide +kernel
theorem dX2_readWord_38 : decode cX2_readWord 38 = .ok (.iload_n 2, 1) := by decide +kernel
theorem dX2_readWord_39 : decode cX2_readWord 39 = .ok (.getstatic 65, 3) := by decide +kernel
theorem dX2_readWord_42 : decode cX2_readWord 42 = .ok (.arraylength, 1) := by decide +kernel
theorem dX2_readWord_43 : decode cX2_readWord 43 = .ok (.if_icmp .ge 31, 3) := by decide +kernel
theorem dX2_readWord_46 : decode cX2_readWord 46 = .ok (.aload_n 0, 1) := by decide +kernel
theorem dX2_readWord_47 : decode cX2_readWord 47 = .ok (.getstatic 65, 3) := by decide +kernel
theorem dX2_readWord_50 : decode cX2_readWord 50 = .ok (.iload_n 2, 1) := by decide +kernel
theorem dX2_readWord_51 : decode cX2_readWord 51 = .ok (.aaload, 1) := by decide +kernel
theorem dX2_readWord_52 : decode cX2_readWord 52 = .ok (.getfield 69, 3) := by decide +kernel
theorem dX2_readWord_55 : decode cX2_readWord 55 = .ok (.iload_n 1, 1) := by decide +kernel
theorem dX2_readWord_56 : decode cX2_readWord 56 = .ok (.invokevirtual 73, 3) := by decide +kernel
theorem dX2_readWord_59 : decode cX2_readWord 59 = .ok (.ifCond .eq 9, 3) := by decide +kernel
theorem dX2_readWord_62 : decode cX2_readWord 62 = .ok (.getstatic 65, 3) := by decide +kernel
theorem dX2_readWord_65 : decode cX2_readWord 65 = .ok (.iload_n 2, 1) := by decide +kernel
theorem dX2_readWord_66 : decode cX2_readWord 66 = .ok (.aaload, 1) := by decide +kernel
theorem dX2_readWord_67 : decode cX2_readWord 67 = .ok (.areturn, 1) := by decide +kernel
theorem dX2_readWord_68 : decode cX2_readWord 68 = .ok (.iinc 2 1, 3) := by decide +kernel
theorem dX2_readWord_71 : decode cX2_readWord 71 = .ok (.goto (-33), 3) := by decide +kernel
theorem dX2_readWord_74 : decode cX2_readWord 74 = .ok (.aconst_null, 1) := by decide +kernel
theorem dX2_readWord_75 : decode cX2_readWord 75 = .ok (.areturn, 1) := by decide +kernel
theorem dX2_isWordAt_0 : decode cX2_isWordAt 0 = .ok (.iload_n 2, 1) := by decide +kernel
theorem dX2_isWordAt_1 : decode cX2_isWordAt 1 = .ok (.ifCond .lt 26, 3) := by decide +kernel
theorem dX2_isWordAt_4 : decode cX2_isWordAt 4 = .ok (.aload_n 0, 1) := by decide +kernel
theorem dX2_isWordAt_5 : decode cX2_isWordAt 5 = .ok (.getfield 22, 3) := by decide +kernel
theorem dX2_isWordAt_8 : decode cX2_isWordAt 8 = .ok (.sipush 150, 3) := by decide +kernel
theorem dX2_isWordAt_11 : decode cX2_isWordAt 11 = .ok (.if_icmp .gt 16, 3) := by decide +kernel
theorem dX2_isWordAt_14 : decode cX2_isWordAt 14 = .ok (.aload_n 0, 1) := by decide +kernel
theorem dX2_isWordAt_15 : decode cX2_isWordAt 15 = .ok (.getfield 22, 3) := by decide +kernel
theorem dX2_isWordAt_18 : decode cX2_isWordAt 18 = .ok (.iload_n 2, 1) := by decide +kernel
theorem dX2_isWordAt_19 : decode cX2_isWordAt 19 = .ok (.isub, 1) := by decide +kernel
theorem dX2_isWordAt_20 : decode cX2_isWordAt 20 = .ok (.aload_n 1, 1) := by decide +kernel
theorem dX2_isWordAt_21 : decode cX2_isWordAt 21 = .ok (.invokevirtual 77, 3) := by decide +kernel
theorem dX2_isWordAt_24 : decode cX2_isWordAt 24 = .ok (.if_icmp .eq 5, 3) := by decide +kernel
theorem dX2_isWordAt_27 : decode cX2_isWordAt 27 = .ok (.iconst 0, 1) := by decide +kernel
theorem dX2_isWordAt_28 : decode cX2_isWordAt 28 = .ok (.ireturn, 1) := by decide +kernel
theorem dX2_isWordAt_29 : decode cX2_isWordAt 29 = .ok (.iconst 0, 1) := by decide +kernel
theorem dX2_isWordAt_30 : decode cX2_isWordAt 30 = .ok (.istore_n 3, 1) := by decide +kernel
theorem dX2_isWordAt_31 : decode cX2_isWordAt 31 = .ok (.iload_n 3, 1) := by decide +kernel
theorem dX2_isWordAt_32 : decode cX2_isWordAt 32 = .ok (.aload_n 1, 1) := by decide +kernel
theorem dX2_isWordAt_33 : decode cX2_isWordAt 33 = .ok (.invokevirtual 77, 3) := by decide +kernel
theorem dX2_isWordAt_36 : decode cX2_isWordAt 36 = .ok (.if_icmp .ge 27, 3) := by decide +kernel
theorem dX2_isWordAt_39 : decode cX2_isWordAt 39 = .ok (.aload_n 0, 1) := by decide +kernel
theorem dX2_isWordAt_40 : decode cX2_isWordAt 40 = .ok (.getfield 9, 3) := by decide +kernel
theorem dX2_isWordAt_43 : decode cX2_isWordAt 43 = .ok (.iload_n 2, 1) := by decide +kernel
theorem dX2_isWordAt_44 : decode cX2_isWordAt 44 = .ok (.iload_n 3, 1) := by decide +kernel
theorem dX2_isWordAt_45 : decode cX2_isWordAt 45 = .ok (.iadd, 1) := by decide +kernel
theorem dX2_isWordAt_46 : decode cX2_isWordAt 46 = .ok (.iaload, 1) := by decide +kernel
theorem dX2_isWordAt_47 : decode cX2_isWordAt 47 = .ok (.aload_n 1, 1) := by decide +kernel
theorem dX2_isWordAt_48 : decode cX2_isWordAt 48 = .ok (.iload_n 3, 1) := by decide +kernel
theorem dX2_isWordAt_49 : decode cX2_isWordAt 49 = .ok (.invokevirtual 81, 3) := by decide +kernel
theorem dX2_isWordAt_52 : decode cX2_isWordAt 52 = .ok (.if_icmp .eq 5, 3) := by decide +kernel
theorem dX2_isWordAt_55 : decode cX2_isWordAt 55 = .ok (.iconst 0, 1) := by decide +kernel
theorem dX2_isWordAt_56 : decode cX2_isWordAt 56 = .ok (.ireturn, 1) := by decide +kernel
theorem dX2_isWordAt_57 : decode cX2_isWordAt 57 = .ok (.iinc 3 1, 3) := by decide +kernel
theorem dX2_isWordAt_60 : decode cX2_isWordAt 60 = .ok (.goto (-29), 3) := by decide +kernel
theorem dX2_isWordAt_63 : decode cX2_isWordAt 63 = .ok (.iconst 1, 1) := by decide +kernel
theorem dX2_isWordAt_64 : decode cX2_isWordAt 64 = .ok (.ireturn, 1) := by decide +kernel
theorem dX2_readNumbers_0 : decode cX2_readNumbers 0 = .ok (.iconst 0, 1) := by decide +kernel
theorem dX2_readNumbers_1 : decode cX2_readNumbers 1 = .ok (.istore_n 2, 1) := by decide +kernel
theorem dX2_readNumbers_2 : decode cX2_readNumbers 2 = .ok (.iload_n 2, 1) := by decide +kernel
theorem dX2_readNumbers_3 : decode cX2_readNumbers 3 = .ok (.iconst 3, 1) := by decide +kernel
theorem dX2_readNumbers_4 : decode cX2_readNumbers 4 = .ok (.if_icmp .ge 16, 3) := by decide +kernel
theorem dX2_readNumbers_7 : decode cX2_readNumbers 7 = .ok (.aload_n 0, 1) := by decide +kernel
theorem dX2_readNumbers_8 : decode cX2_readNumbers 8 = .ok (.getfield 19, 3) := by decide +kernel
theorem dX2_readNumbers_11 : decode cX2_readNumbers 11 = .ok (.iload_n 2, 1) := by decide +kernel
theorem dX2_readNumbers_12 : decode cX2_readNumbers 12 = .ok (.iconst 0, 1) := by decide +kernel
theorem dX2_readNumbers_13 : decode cX2_readNumbers 13 = .ok (.iastore, 1) := by decide +kernel
theorem dX2_readNumbers_14 : decode cX2_readNumbers 14 = .ok (.iinc 2 1, 3) := by decide +kernel
theorem dX2_readNumbers_17 : decode cX2_readNumbers 17 = .ok (.goto (-15), 3) := by decide +kernel
theorem dX2_readNumbers_20 : decode cX2_readNumbers 20 = .ok (.iconst 0, 1) := by decide +kernel
theorem dX2_readNumbers_21 : decode cX2_readNumbers 21 = .ok (.istore_n 2, 1) := by decide +kernel
theorem dX2_readNumbers_22 : decode cX2_readNumbers 22 = .ok (.iload_n 2, 1) := by decide +kernel
theorem dX2_readNumbers_23 : decode cX2_readNumbers 23 = .ok (.iload_n 1, 1) := by decide +kernel
theorem dX2_readNumbers_24 : decode cX2_readNumbers 24 = .ok (.if_icmp .ge 40, 3) := by decide +kernel
theorem dX2_readNumbers_27 : decode cX2_readNumbers 27 = .ok (.iload_n 2, 1) := by decide +kernel
theorem dX2_readNumbers_28 : decode cX2_readNumbers 28 = .ok (.iconst 3, 1) := by decide +kernel
theorem dX2_readNumbers_29 : decode cX2_readNumbers 29 = .ok (.if_icmp .ge 35, 3) := by decide +kernel
theorem dX2_readNumbers_32 : decode cX2_readNumbers 32 = .ok (.aload_n 0, 1) := by decide +kernel
theorem dX2_readNumbers_33 : decode cX2_readNumbers 33 = .ok (.invokevirtual 35, 3) := by decide +kernel
theorem dX2_readNumbers_36 : decode cX2_readNumbers 36 = .ok (.ifCond .eq 10, 3) := by decide +kernel
theorem dX2_readNumbers_39 : decode cX2_readNumbers 39 = .ok (.aload_n 0, 1) := by decide +kernel
theorem dX2_readNumbers_40 : decode cX2_readNumbers 40 = .ok (.invokevirtual 85, 3) := by decide +kernel
theorem dX2_readNumbers_43 : decode cX2_readNumbers 43 = .ok (.ifCond .ne 5, 3) := by decide +kernel
theorem dX2_readNumbers_46 : decode cX2_readNumbers 46 = .ok (.iconst 0, 1) := by decide +kernel
theorem dX2_readNumbers_47 : decode cX2_readNumbers 47 = .ok (.ireturn, 1) := by decide +kernel
theorem dX2_readNumbers_48 : decode cX2_readNumbers 48 = .ok (.aload_n 0, 1) := by decide +kernel
theorem dX2_readNumbers_49 : decode cX2_readNumbers 49 = .ok (.getfield 19, 3) := by decide +kernel
theorem dX2_readNumbers_52 : decode cX2_readNumbers 52 = .ok (.iload_n 2, 1) := by decide +kernel
theorem dX2_readNumbers_53 : decode cX2_readNumbers 53 = .ok (.aload_n 0, 1) := by decide +kernel
theorem dX2_readNumbers_54 : decode cX2_readNumbers 54 = .ok (.invokevirtual 88, 3) := by decide +kernel
theorem dX2_readNumbers_57 : decode cX2_readNumbers 57 = .ok (.iastore, 1) := by decide +kernel
theorem dX2_readNumbers_58 : decode cX2_readNumbers 58 = .ok (.iinc 2 1, 3) := by decide +kernel
theorem dX2_readNumbers_61 : decode cX2_readNumbers 61 = .ok (.goto (-39), 3) := by decide +kernel
theorem dX2_readNumbers_64 : decode cX2_readNumbers 64 = .ok (.iconst 1, 1) := by decide +kernel
theorem dX2_readNumbers_65 : decode cX2_readNumbers 65 = .ok (.ireturn, 1) := by decide +kernel
theorem dX2_readDigits_0 : decode cX2_readDigits 0 = .ok (.iconst 0, 1) := by decide +kernel
theorem dX2_readDigits_1 : decode cX2_readDigits 1 = .ok (.istore_n 1, 1) := by decide +kernel
theorem dX2_readDigits_2 : decode cX2_readDigits 2 = .ok (.iconst 0, 1) := by decide +kernel
theorem dX2_readDigits_3 : decode cX2_readDigits 3 = .ok (.istore_n 2, 1) := by decide +kernel
theorem dX2_readDigits_4 : decode cX2_readDigits 4 = .ok (.iload_n 2, 1) := by decide +kernel
theorem dX2_readDigits_5 : decode cX2_readDigits 5 = .ok (.iconst 3, 1) := by decide +kernel
theorem dX2_readDigits_6 : decode cX2_readDigits 6 = .ok (.if_icmp .ge 39, 3) := by decide +kernel
theorem dX2_readDigits_9 : decode cX2_readDigits 9 = .ok (.aload_n 0, 1) := by decide +kernel
theorem dX2_readDigits_10 : decode cX2_readDigits 10 = .ok (.invokevirtual 85, 3) := by decide +kernel
theorem dX2_readDigits_13 : decode cX2_readDigits 13 = .ok (.ifCond .eq 32, 3) := by decide +kernel
theorem dX2_readDigits_16 : decode cX2_readDigits 16 = .ok (.bipush 10, 2) := by decide +kernel
theorem dX2_readDigits_18 : decode cX2_readDigits 18 = .ok (.iload_n 1, 1) := by decide +kernel
theorem dX2_readDigits_19 : decode cX2_readDigits 19 = .ok (.imul, 1) := by decide +kernel
theorem dX2_readDigits_20 : decode cX2_readDigits 20 = .ok (.aload_n 0, 1) := by decide +kernel
theorem dX2_readDigits_21 : decode cX2_readDigits 21 = .ok (.invokevirtual 39, 3) := by decide +kernel
theorem dX2_readDigits_24 : decode cX2_readDigits 24 = .ok (.iadd, 1) := by decide +kernel
theorem dX2_readDigits_25 : decode cX2_readDigits 25 = .ok (.bipush 48, 2) := by decide +kernel
theorem dX2_readDigits_27 : decode cX2_readDigits 27 = .ok (.isub, 1) := by decide +kernel
theorem dX2_readDigits_28 : decode cX2_readDigits 28 = .ok (.istore_n 1, 1) := by decide +kernel
theorem dX2_readDigits_29 : decode cX2_readDigits 29 = .ok (.aload_n 0, 1) := by decide +kernel
theorem dX2_readDigits_30 : decode cX2_readDigits 30 = .ok (.dup, 1) := by decide +kernel
theorem dX2_readDigits_31 : decode cX2_readDigits 31 = .ok (.getfield 22, 3) := by decide +kernel
theorem dX2_readDigits_34 : decode cX2_readDigits 34 = .ok (.iconst 1, 1) := by decide +kernel
theorem dX2_readDigits_35 : decode cX2_readDigits 35 = .ok (.iadd, 1) := by decide +kernel
theorem dX2_readDigits_36 : decode cX2_readDigits 36 = .ok (.putfield 22, 3) := by decide +kernel
theorem dX2_readDigits_39 : decode cX2_readDigits 39 = .ok (.iinc 2 1, 3) := by decide +kernel
theorem dX2_readDigits_42 : decode cX2_readDigits 42 = .ok (.goto (-38), 3) := by decide +kernel
theorem dX2_readDigits_45 : decode cX2_readDigits 45 = .ok (.iload_n 1, 1) := by decide +kernel
theorem dX2_readDigits_46 : decode cX2_readDigits 46 = .ok (.ireturn, 1) := by decide +kernel
theorem dX2_readSemicolon_0 : decode cX2_readSemicolon 0 = .ok (.aload_n 0, 1) := by decide +kernel
theorem dX2_readSemicolon_1 : decode cX2_readSemicolon 1 = .ok (.invokevirtual 35, 3) := by decide +kernel
theorem dX2_readSemicolon_4 : decode cX2_readSemicolon 4 = .ok (.pop, 1) := by decide +kernel
theorem dX2_readSemicolon_5 : decode cX2_readSemicolon 5 = .ok (.aload_n 0, 1) := by decide +kernel
theorem dX2_readSemicolon_6 : decode cX2_readSemicolon 6 = .ok (.invokevirtual 39, 3) := by decide +kernel
theorem dX2_readSemicolon_9 : decode cX2_readSemicolon 9 = .ok (.bipush 59, 2) := by decide +kernel
theorem dX2_readSemicolon_11 : decode cX2_readSemicolon 11 = .ok (.if_icmp .eq 5, 3) := by decide +kernel
theorem dX2_readSemicolon_14 : decode cX2_readSemicolon 14 = .ok (.iconst 0, 1) := by decide +kernel
theorem dX2_readSemicolon_15 : decode cX2_readSemicolon 15 = .ok (.ireturn, 1) := by decide +kernel
theorem dX2_readSemicolon_16 : decode cX2_readSemicolon 16 = .ok (.aload_n 0, 1) := by decide +kernel
theorem dX2_readSemicolon_17 : decode cX2_readSemicolon 17 = .ok (.dup, 1) := by decide +kernel
theorem dX2_readSemicolon_18 : decode cX2_readSemicolon 18 = .ok (.getfield 22, 3) := by decide +kernel
theorem dX2_readSemicolon_21 : decode cX2_readSemicolon 21 = .ok (.iconst 1, 1) := by decide +kernel
theorem dX2_readSemicolon_22 : decode cX2_readSemicolon 22 = .ok (.iadd, 1) := by decide +kernel
theorem dX2_readSemicolon_23 : decode cX2_readSemicolon 23 = .ok (.putfield 22, 3) := by decide +kernel
theorem dX2_readSemicolon_26 : decode cX2_readSemicolon 26 = .ok (.iconst 1, 1) := by decide +kernel
theorem dX2_readSemicolon_27 : decode cX2_readSemicolon 27 = .ok (.ireturn, 1) := by decide +kernel
theorem dX3_init_0 : decode cX3_init 0 = .ok (.aload_n 0, 1) := by decide +kernel
theorem dX3_init_1 : decode cX3_init 1 = .ok (.invokespecial 3, 3) := by decide +kernel
theorem dX3_init_4 : decode cX3_init 4 = .ok (.aload_n 0, 1) := by decide +kernel
theorem dX3_init_5 : decode cX3_init 5 = .ok (.iconst 0, 1) := by decide +kernel
theorem dX3_init_6 : decode cX3_init 6 = .ok (.putfield 9, 3) := by decide +kernel
theorem dX3_init_9 : decode cX3_init 9 = .ok (.aload_n 0, 1) := by decide +kernel
theorem dX3_init_10 : decode cX3_init 10 = .ok (.iconst 0, 1) := by decide +kernel
theorem dX3_init_11 : decode cX3_init 11 = .ok (.putfield 15, 3) := by decide +kernel
theorem dX3_init_14 : decode cX3_init 14 = .ok (.aload_n 0, 1) := by decide +kernel
theorem dX3_init_15 : decode cX3_init 15 = .ok (.iconst (-1), 1) := by decide +kernel
theorem dX3_init_16 : decode cX3_init 16 = .ok (.putfield 19, 3) := by decide +kernel
theorem dX3_init_19 : decode cX3_init 19 = .ok (.aload_n 0, 1) := by decide +kernel
theorem dX3_init_20 : decode cX3_init 20 = .ok (.iconst (-1), 1) := by decide +kernel
theorem dX3_init_21 : decode cX3_init 21 = .ok (.putfield 22, 3) := by decide +kernel
theorem dX3_init_24 : decode cX3_init 24 = .ok (.aload_n 0, 1) := by decide +kernel
theorem dX3_init_25 : decode cX3_init 25 = .ok (.iconst 0, 1) := by decide +kernel
theorem dX3_init_26 : decode cX3_init 26 = .ok (.putfield 25, 3) := by decide +kernel
theorem dX3_init_29 : decode cX3_init 29 = .ok (.aload_n 0, 1) := by decide +kernel
theorem dX3_init_30 : decode cX3_init 30 = .ok (.iconst 0, 1) := by decide +kernel
theorem dX3_init_31 : decode cX3_init 31 = .ok (.putfield 28, 3) := by decide +kernel
theorem dX3_init_34 : decode cX3_init 34 = .ok (.aload_n 0, 1) := by decide +kernel
theorem dX3_init_35 : decode cX3_init 35 = .ok (.aconst_null, 1) := by decide +kernel
theorem dX3_init_36 : decode cX3_init 36 = .ok (.putfield 31, 3) := by decide +kernel
theorem dX3_init_39 : decode cX3_init 39 = .ok (.aload_n 0, 1) := by decide +kernel
theorem dX3_init_40 : decode cX3_init 40 = .ok (.aconst_null, 1) := by decide +kernel
theorem dX3_init_41 : decode cX3_init 41 = .ok (.putfield 35, 3) := by decide +kernel
theorem dX3_init_44 : decode cX3_init 44 = .ok (.aload_n 0, 1) := by decide +kernel
theorem dX3_init_45 : decode cX3_init 45 = .ok (.iconst (-1), 1) := by decide +kernel
theorem dX3_init_46 : decode cX3_init 46 = .ok (.putfield 38, 3) := by decide +kernel
theorem dX3_init_49 : decode cX3_init 49 = .ok (.aload_n 0, 1) := by decide +kernel
theorem dX3_init_50 : decode cX3_init 50 = .ok (.iconst 0, 1) := by decide +kernel
theorem dX3_init_51 : decode cX3_init 51 = .ok (.putfield 41, 3) := by decide +kernel
theorem dX3_init_54 : decode cX3_init 54 = .ok (.aload_n 0, 1) := by decide +kernel
theorem dX3_init_55 : decode cX3_init 55 = .ok (.iconst 0, 1) := by decide +kernel
theorem dX3_init_56 : decode cX3_init 56 = .ok (.putfield 44, 3) := by decide +kernel
theorem dX3_init_59 : decode cX3_init 59 = .ok (.aload_n 0, 1) := by decide +kernel
theorem dX3_init_60 : decode cX3_init 60 = .ok (.iconst 0, 1) := by decide +kernel
theorem dX3_init_61 : decode cX3_init 61 = .ok (.putfield 47, 3) := by decide +kernel
theorem dX3_init_64 : decode cX3_init 64 = .ok (.aload_n 0, 1) := by decide +kernel
theorem dX3_init_65 : decode cX3_init 65 = .ok (.iconst 0, 1) := by decide +kernel
theorem dX3_init_66 : decode cX3_init 66 = .ok (.putfield 50, 3) := by decide +kernel
theorem dX3_init_69 : decode cX3_init 69 = .ok (.aload_n 0, 1) := by decide +kernel
theorem dX3_init_70 : decode cX3_init 70 = .ok (.iconst 0, 1) := by decide +kernel
theorem dX3_init_71 : decode cX3_init 71 = .ok (.putfield 53, 3) := by decide +kernel
theorem dX3_init_74 : decode cX3_init 74 = .ok (.aload_n 0, 1) := by decide +kernel
theorem dX3_init_75 : decode cX3_init 75 = .ok (.iconst 4, 1) := by decide +kernel
theorem dX3_init_76 : decode cX3_init 76 = .ok (.newarray .int, 2) := by decide +kernel
theorem dX3_init_78 : decode cX3_init 78 = .ok (.putfield 56, 3) := by decide +kernel
theorem dX3_init_81 : decode cX3_init 81 = .ok (.return_, 1) := by decide +kernel
theorem dX3_copyFrom_0 : decode cX3_copyFrom 0 = .ok (.aload_n 0, 1) := by decide +kernel
theorem dX3_copyFrom_1 : decode cX3_copyFrom 1 = .ok (.aload_n 1, 1) := by decide +kernel
theorem dX3_copyFrom_2 : decode cX3_copyFrom 2 = .ok (.getfield 9, 3) := by decide +kernel
theorem dX3_copyFrom_5 : decode cX3_copyFrom 5 = .ok (.putfield 9, 3) := by decide +kernel
theorem dX3_copyFrom_8 : decode cX3_copyFrom 8 = .ok (.aload_n 0, 1) := by decide +kernel
theorem dX3_copyFrom_9 : decode cX3_copyFrom 9 = .ok (.aload_n 1, 1) := by decide +kernel
theorem dX3_copyFrom_10 : decode cX3_copyFrom 10 = .ok (.getfield 15, 3) := by decide +kernel
theorem dX3_copyFrom_13 : decode cX3_copyFrom 13 = .ok (.putfield 15, 3) := by decide +kernel
theorem dX3_copyFrom_16 : decode cX3_copyFrom 16 = .ok (.aload_n 0, 1) := by decide +kernel
theorem dX3_copyFrom_17 : decode cX3_copyFrom 17 = .ok (.aload_n 1, 1) := by decide +kernel
theorem dX3_copyFrom_18 : decode cX3_copyFrom 18 = .ok (.getfield 19, 3) := by decide +kernel
theorem dX3_copyFrom_21 : decode cX3_copyFrom 21 = .ok (.putfield 19, 3) := by decide +kernel
theorem dX3_copyFrom_24 : decode cX3_copyFrom 24 = .ok (.aload_n 0, 1) := by decide +kernel
theorem dX3_copyFrom_25 : decode cX3_copyFrom 25 = .ok (.aload_n 1, 1) := by decide +kernel
theorem dX3_copyFrom_26 : decode cX3_copyFrom 26 = .ok (.getfield 22, 3) := by decide +kernel
theorem dX3_copyFrom_29 : decode cX3_copyFrom 29 = .ok (.putfield 22, 3) := by decide +kernel
theorem dX3_copyFrom_32 : decode cX3_copyFrom 32 = .ok (.aload_n 0, 1) := by decide +kernel
theorem dX3_copyFrom_33 : decode cX3_copyFrom 33 = .ok (.aload_n 1, 1) := by decide +kernel
theorem dX3_copyFrom_34 : decode cX3_copyFrom 34 = .ok (.getfield 25, 3) := by decide +kernel
theorem dX3_copyFrom_37 : decode cX3_copyFrom 37 = .ok (.putfield 25, 3) := by decide +kernel
theorem dX3_copyFrom_40 : decode cX3_copyFrom 40 = .ok (.aload_n 0, 1) := by decide +kernel
theorem dX3_copyFrom_41 : decode cX3_copyFrom 41 = .ok (.aload_n 1, 1) := by decide +kernel
theorem dX3_copyFrom_42 : decode cX3_copyFrom 42 = .ok (.getfield 28, 3) := by decide +kernel
theorem dX3_copyFrom_45 : decode cX3_copyFrom 45 = .ok (.putfield 28, 3) := by decide +kernel
theorem dX3_copyFrom_48 : decode cX3_copyFrom 48 = .ok (.return_, 1) := by decide +kernel
theorem dX3_isCritical_0 : decode cX3_isCritical 0 = .ok (.aload_n 0, 1) := by decide +kernel
theorem dX3_isCritical_1 : decode cX3_isCritical 1 = .ok (.getfield 53, 3) := by decide +kernel
theorem dX3_isCritical_4 : decode cX3_isCritical 4 = .ok (.ifCond .ne 7, 3) := by decide +kernel
theorem dX3_isCritical_7 : decode cX3_isCritical 7 = .ok (.iconst 1, 1) := by decide +kernel
theorem dX3_isCritical_8 : decode cX3_isCritical 8 = .ok (.goto 4, 3) := by decide +kernel
theorem dX3_isCritical_11 : decode cX3_isCritical 11 = .ok (.iconst 0, 1) := by decide +kernel
theorem dX3_isCritical_12 : decode cX3_isCritical 12 = .ok (.ireturn, 1) := by decide +kernel
theorem dX3_isCriticalTask_0 : decode cX3_isCriticalTask 0 = .ok (.aload_n 0, 1) := by decide +kernel
theorem dX3_isCriticalTask_1 : decode cX3_isCriticalTask 1 = .ok (.getfield 15, 3) := by decide +kernel
theorem dX3_isCriticalTask_4 : decode cX3_isCriticalTask 4 = .ok (.ifCond .eq 14, 3) := by decide +kernel
theorem dX3_isCriticalTask_7 : decode cX3_isCriticalTask 7 = .ok (.aload_n 0, 1) := by decide +kernel
theorem dX3_isCriticalTask_8 : decode cX3_isCriticalTask 8 = .ok (.invokevirtual 60, 3) := by decide +kernel
theorem dX3_isCriticalTask_11 : decode cX3_isCriticalTask 11 = .ok (.ifCond .eq 7, 3) := by decide +kernel
theorem dX3_isCriticalTask_14 : decode cX3_isCriticalTask 14 = .ok (.iconst 1, 1) := by decide +kernel
theorem dX3_isCriticalTask_15 : decode cX3_isCriticalTask 15 = .ok (.goto 4, 3) := by decide +kernel
theorem dX3_isCriticalTask_18 : decode cX3_isCriticalTask 18 = .ok (.iconst 0, 1) := by decide +kernel
theorem dX3_isCriticalTask_19 : decode cX3_isCriticalTask 19 = .ok (.ireturn, 1) := by decide +kernel
theorem dX3_runsAt_0 : decode cX3_runsAt 0 = .ok (.aload_n 0, 1) := by decide +kernel
theorem dX3_runsAt_1 : decode cX3_runsAt 1 = .ok (.getfield 15, 3) := by decide +kernel
theorem dX3_runsAt_4 : decode cX3_runsAt 4 = .ok (.ifCond .eq 28, 3) := by decide +kernel
theorem dX3_runsAt_7 : decode cX3_runsAt 7 = .ok (.aload_n 0, 1) := by decide +kernel
theorem dX3_runsAt_8 : decode cX3_runsAt 8 = .ok (.getfield 47, 3) := by decide +kernel
theorem dX3_runsAt_11 : decode cX3_runsAt 11 = .ok (.iload_n 1, 1) := by decide +kernel
theorem dX3_runsAt_12 : decode cX3_runsAt 12 = .ok (.if_icmp .gt 20, 3) := by decide +kernel
theorem dX3_runsAt_15 : decode cX3_runsAt 15 = .ok (.iload_n 1, 1) := by decide +kernel
theorem dX3_runsAt_16 : decode cX3_runsAt 16 = .ok (.aload_n 0, 1) := by decide +kernel
theorem dX3_runsAt_17 : decode cX3_runsAt 17 = .ok (.getfield 47, 3) := by decide +kernel
theorem dX3_runsAt_20 : decode cX3_runsAt 20 = .ok (.aload_n 0, 1) := by decide +kernel
theorem dX3_runsAt_21 : decode cX3_runsAt 21 = .ok (.getfield 44, 3) := by decide +kernel
theorem dX3_runsAt_24 : decode cX3_runsAt 24 = .ok (.iadd, 1) := by decide +kernel
theorem dX3_runsAt_25 : decode cX3_runsAt 25 = .ok (.if_icmp .ge 7, 3) := by decide +kernel
theorem dX3_runsAt_28 : decode cX3_runsAt 28 = .ok (.iconst 1, 1) := by decide +kernel
theorem dX3_runsAt_29 : decode cX3_runsAt 29 = .ok (.goto 4, 3) := by decide +kernel
theorem dX3_runsAt_32 : decode cX3_runsAt 32 = .ok (.iconst 0, 1) := by decide +kernel
theorem dX3_runsAt_33 : decode cX3_runsAt 33 = .ok (.ireturn, 1) := by decide +kernel
theorem dX3_standsIn_0 : decode cX3_standsIn 0 = .ok (.aload_n 0, 1) := by decide +kernel
theorem dX3_standsIn_1 : decode cX3_standsIn 1 = .ok (.getfield 19, 3) := by decide +kernel
theorem dX3_standsIn_4 : decode cX3_standsIn 4 = .ok (.iload_n 1, 1) := by decide +kernel
theorem dX3_standsIn_5 : decode cX3_standsIn 5 = .ok (.if_icmp .ne 15, 3) := by decide +kernel
theorem dX3_standsIn_8 : decode cX3_standsIn 8 = .ok (.aload_n 0, 1) := by decide +kernel
theorem dX3_standsIn_9 : decode cX3_standsIn 9 = .ok (.getfield 22, 3) := by decide +kernel
theorem dX3_standsIn_12 : decode cX3_standsIn 12 = .ok (.iload_n 2, 1) := by decide +kernel
theorem dX3_standsIn_13 : decode cX3_standsIn 13 = .ok (.if_icmp .ne 7, 3) := by decide +kernel
theorem dX3_standsIn_16 : decode cX3_standsIn 16 = .ok (.iconst 1, 1) := by decide +kernel
theorem dX3_standsIn_17 : decode cX3_standsIn 17 = .ok (.goto 4, 3) := by decide +kernel
theorem dX3_standsIn_20 : decode cX3_standsIn 20 = .ok (.iconst 0, 1) := by decide +kernel
theorem dX3_standsIn_21 : decode cX3_standsIn 21 = .ok (.ireturn, 1) := by decide +kernel
theorem dX3_isWithin_0 : decode cX3_isWithin 0 = .ok (.aload_n 0, 1) := by decide +kernel
theorem dX3_isWithin_1 : decode cX3_isWithin 1 = .ok (.astore_n 2, 1) := by decide +kernel
theorem dX3_isWithin_2 : decode cX3_isWithin 2 = .ok (.aload_n 2, 1) := by decide +kernel
theorem dX3_isWithin_3 : decode cX3_isWithin 3 = .ok (.ifnull 18, 3) := by decide +kernel
theorem dX3_isWithin_6 : decode cX3_isWithin 6 = .ok (.aload_n 2, 1) := by decide +kernel
theorem dX3_isWithin_7 : decode cX3_isWithin 7 = .ok (.aload_n 1, 1) := by decide +kernel
theorem dX3_isWithin_8 : decode cX3_isWithin 8 = .ok (.if_acmp .ne 5, 3) := by decide +kernel
theorem dX3_isWithin_11 : decode cX3_isWithin 11 = .ok (.iconst 1, 1) := by decide +kernel
theorem dX3_isWithin_12 : decode cX3_isWithin 12 = .ok (.ireturn, 1) := by decide +kernel
theorem dX3_isWithin_13 : decode cX3_isWithin 13 = .ok (.aload_n 2, 1) := by decide +kernel
theorem dX3_isWithin_14 : decode cX3_isWithin 14 = .ok (.getfield 31, 3) := by decide +kernel
theorem dX3_isWithin_17 : decode cX3_isWithin 17 = .ok (.astore_n 2, 1) := by decide +kernel
theorem dX3_isWithin_18 : decode cX3_isWithin 18 = .ok (.goto (-16), 3) := by decide +kernel
theorem dX3_isWithin_21 : decode cX3_isWithin 21 = .ok (.iconst 0, 1) := by decide +kernel
theorem dX3_isWithin_22 : decode cX3_isWithin 22 = .ok (.ireturn, 1) := by decide +kernel
theorem dX3_whyNotTo_0 : decode cX3_whyNotTo 0 = .ok (.aload_n 0, 1) := by decide +kernel
theorem dX3_whyNotTo_1 : decode cX3_whyNotTo 1 = .ok (.getfield 9, 3) := by decide +kernel
theorem dX3_whyNotTo_4 : decode cX3_whyNotTo 4 = .ok (.ifCond .ne 5, 3) := by decide +kernel
theorem dX3_whyNotTo_7 : decode cX3_whyNotTo 7 = .ok (.iconst 1, 1) := by decide +kernel
theorem dX3_whyNotTo_8 : decode cX3_whyNotTo 8 = .ok (.ireturn, 1) := by decide +kernel
theorem dX3_whyNotTo_9 : decode cX3_whyNotTo 9 = .ok (.aload_n 1, 1) := by decide +kernel
theorem dX3_whyNotTo_10 : decode cX3_whyNotTo 10 = .ok (.getfield 15, 3) := by decide +kernel
theorem dX3_whyNotTo_13 : decode cX3_whyNotTo 13 = .ok (.ifCond .eq 5, 3) := by decide +kernel
theorem dX3_whyNotTo_16 : decode cX3_whyNotTo 16 = .ok (.iconst 2, 1) := by decide +kernel
theorem dX3_whyNotTo_17 : decode cX3_whyNotTo 17 = .ok (.ireturn, 1) := by decide +kernel
theorem dX3_whyNotTo_18 : decode cX3_whyNotTo 18 = .ok (.aload_n 1, 1) := by decide +kernel
theorem dX3_whyNotTo_19 : decode cX3_whyNotTo 19 = .ok (.aload_n 0, 1) := by decide +kernel
theorem dX3_whyNotTo_20 : decode cX3_whyNotTo 20 = .ok (.invokevirtual 64, 3) := by decide +kernel
theorem dX3_whyNotTo_23 : decode cX3_whyNotTo 23 = .ok (.ifCond .eq 7, 3) := by decide +kernel
theorem dX3_whyNotTo_26 : decode cX3_whyNotTo 26 = .ok (.iconst 3, 1) := by decide +kernel
theorem dX3_whyNotTo_27 : decode cX3_whyNotTo 27 = .ok (.goto 4, 3) := by decide +kernel
theorem dX3_whyNotTo_30 : decode cX3_whyNotTo 30 = .ok (.iconst 0, 1) := by decide +kernel
theorem dX3_whyNotTo_31 : decode cX3_whyNotTo 31 = .ok (.ireturn, 1) := by decide +kernel
theorem dX3_rowLength_0 : decode cX3_rowLength 0 = .ok (.iload_n 1, 1) := by decide +kernel
theorem dX3_rowLength_1 : decode cX3_rowLength 1 = .ok (.ifCond .lt 17, 3) := by decide +kernel
theorem dX3_rowLength_4 : decode cX3_rowLength 4 = .ok (.iload_n 1, 1) := by decide +kernel
theorem dX3_rowLength_5 : decode cX3_rowLength 5 = .ok (.iconst 4, 1) := by decide +kernel
theorem dX3_rowLength_6 : decode cX3_rowLength 6 = .ok (.if_icmp .ge 12, 3) := by decide +kernel
theorem dX3_rowLength_9 : decode cX3_rowLength 9 = .ok (.aload_n 0, 1) := by decide +kernel
theorem dX3_rowLength_10 : decode cX3_rowLength 10 = .ok (.getfield 56, 3) := by decide +kernel
theorem dX3_rowLength_13 : decode cX3_rowLength 13 = .ok (.iload_n 1, 1) := by decide +kernel
theorem dX3_rowLength_14 : decode cX3_rowLength 14 = .ok (.iaload, 1) := by decide +kernel
theorem dX3_rowLength_15 : decode cX3_rowLength 15 = .ok (.goto 4, 3) := by decide +kernel
theorem dX3_rowLength_18 : decode cX3_rowLength 18 = .ok (.iconst 0, 1) := by decide +kernel
theorem dX3_rowLength_19 : decode cX3_rowLength 19 = .ok (.ireturn, 1) := by decide +kernel
theorem dX3_lengthenRow_0 : decode cX3_lengthenRow 0 = .ok (.iload_n 1, 1) := by decide +kernel
theorem dX3_lengthenRow_1 : decode cX3_lengthenRow 1 = .ok (.ifCond .lt 18, 3) := by decide +kernel
theorem dX3_lengthenRow_4 : decode cX3_lengthenRow 4 = .ok (.iload_n 1, 1) := by decide +kernel
theorem dX3_lengthenRow_5 : decode cX3_lengthenRow 5 = .ok (.iconst 4, 1) := by decide +kernel
theorem dX3_lengthenRow_6 : decode cX3_lengthenRow 6 = .ok (.if_icmp .ge 13, 3) := by decide +kernel
theorem dX3_lengthenRow_9 : decode cX3_lengthenRow 9 = .ok (.aload_n 0, 1) := by decide +kernel
theorem dX3_lengthenRow_10 : decode cX3_lengthenRow 10 = .ok (.getfield 56, 3) := by decide +kernel
theorem dX3_lengthenRow_13 : decode cX3_lengthenRow 13 = .ok (.iload_n 1, 1) := by decide +kernel
theorem dX3_lengthenRow_14 : decode cX3_lengthenRow 14 = .ok (.dup2, 1) := by decide +kernel
theorem dX3_lengthenRow_15 : decode cX3_lengthenRow 15 = .ok (.iaload, 1) := by decide +kernel
theorem dX3_lengthenRow_16 : decode cX3_lengthenRow 16 = .ok (.iload_n 2, 1) := by decide +kernel
theorem dX3_lengthenRow_17 : decode cX3_lengthenRow 17 = .ok (.iadd, 1) := by decide +kernel
theorem dX3_lengthenRow_18 : decode cX3_lengthenRow 18 = .ok (.iastore, 1) := by decide +kernel
theorem dX3_lengthenRow_19 : decode cX3_lengthenRow 19 = .ok (.return_, 1) := by decide +kernel
theorem dX3_longestRowBut_0 : decode cX3_longestRowBut 0 = .ok (.iconst 0, 1) := by decide +kernel
theorem dX3_longestRowBut_1 : decode cX3_longestRowBut 1 = .ok (.istore_n 2, 1) := by decide +kernel
theorem dX3_longestRowBut_2 : decode cX3_longestRowBut 2 = .ok (.iconst 0, 1) := by decide +kernel
theorem dX3_longestRowBut_3 : decode cX3_longestRowBut 3 = .ok (.istore_n 3, 1) := by decide +kernel
theorem dX3_longestRowBut_4 : decode cX3_longestRowBut 4 = .ok (.iload_n 3, 1) := by decide +kernel
theorem dX3_longestRowBut_5 : decode cX3_longestRowBut 5 = .ok (.iconst 4, 1) := by decide +kernel
theorem dX3_longestRowBut_6 : decode cX3_longestRowBut 6 = .ok (.if_icmp .ge 31, 3) := by decide +kernel
theorem dX3_longestRowBut_9 : decode cX3_longestRowBut 9 = .ok (.iload_n 3, 1) := by decide +kernel
theorem dX3_longestRowBut_10 : decode cX3_longestRowBut 10 = .ok (.iload_n 1, 1) := by decide +kernel
theorem dX3_longestRowBut_11 : decode cX3_longestRowBut 11 = .ok (.if_icmp .eq 20, 3) := by decide +kernel
theorem dX3_longestRowBut_14 : decode cX3_longestRowBut 14 = .ok (.aload_n 0, 1) := by decide +kernel
theorem dX3_longestRowBut_15 : decode cX3_longestRowBut 15 = .ok (.getfield 56, 3) := by decide +kernel
theorem dX3_longestRowBut_18 : decode cX3_longestRowBut 18 = .ok (.iload_n 3, 1) := by decide +kernel
theorem dX3_longestRowBut_19 : decode cX3_longestRowBut 19 = .ok (.iaload, 1) := by decide +kernel
theorem dX3_longestRowBut_20 : decode cX3_longestRowBut 20 = .ok (.iload_n 2, 1) := by decide +kernel
theorem dX3_longestRowBut_21 : decode cX3_longestRowBut 21 = .ok (.if_icmp .le 10, 3) := by decide +kernel
theorem dX3_longestRowBut_24 : decode cX3_longestRowBut 24 = .ok (.aload_n 0, 1) := by decide +kernel
theorem dX3_longestRowBut_25 : decode cX3_longestRowBut 25 = .ok (.getfield 56, 3) := by decide +kernel
theorem dX3_longestRowBut_28 : decode cX3_longestRowBut 28 = .ok (.iload_n 3, 1) := by decide +kernel
theorem dX3_longestRowBut_29 : decode cX3_longestRowBut 29 = .ok (.iaload, 1) := by decide +kernel
theorem dX3_longestRowBut_30 : decode cX3_longestRowBut 30 = .ok (.istore_n 2, 1) := by decide +kernel
theorem dX3_longestRowBut_31 : decode cX3_longestRowBut 31 = .ok (.iinc 3 1, 3) := by decide +kernel
theorem dX3_longestRowBut_34 : decode cX3_longestRowBut 34 = .ok (.goto (-30), 3) := by decide +kernel
theorem dX3_longestRowBut_37 : decode cX3_longestRowBut 37 = .ok (.iload_n 2, 1) := by decide +kernel
theorem dX3_longestRowBut_38 : decode cX3_longestRowBut 38 = .ok (.ireturn, 1) := by decide +kernel
theorem dX3_reserveWith_0 : decode cX3_reserveWith 0 = .ok (.iconst 0, 1) := by decide +kernel
theorem dX3_reserveWith_1 : decode cX3_reserveWith 1 = .ok (.iload_n 1, 1) := by decide +kernel
theorem dX3_reserveWith_2 : decode cX3_reserveWith 2 = .ok (.aload_n 0, 1) := by decide +kernel
theorem dX3_reserveWith_3 : decode cX3_reserveWith 3 = .ok (.getfield 25, 3) := by decide +kernel
theorem dX3_reserveWith_6 : decode cX3_reserveWith 6 = .ok (.isub, 1) := by decide +kernel
theorem dX3_reserveWith_7 : decode cX3_reserveWith 7 = .ok (.invokestatic 68, 3) := by decide +kernel
theorem dX3_reserveWith_10 : decode cX3_reserveWith 10 = .ok (.istore_n 2, 1) := by decide +kernel
theorem dX3_reserveWith_11 : decode cX3_reserveWith 11 = .ok (.iconst 0, 1) := by decide +kernel
theorem dX3_reserveWith_12 : decode cX3_reserveWith 12 = .ok (.aload_n 0, 1) := by decide +kernel
theorem dX3_reserveWith_13 : decode cX3_reserveWith 13 = .ok (.getfield 28, 3) := by decide +kernel
theorem dX3_reserveWith_16 : decode cX3_reserveWith 16 = .ok (.iload_n 2, 1) := by decide +kernel
theorem dX3_reserveWith_17 : decode cX3_reserveWith 17 = .ok (.isub, 1) := by decide +kernel
theorem dX3_reserveWith_18 : decode cX3_reserveWith 18 = .ok (.invokestatic 68, 3) := by decide +kernel
theorem dX3_reserveWith_21 : decode cX3_reserveWith 21 = .ok (.ireturn, 1) := by decide +kernel
theorem dX3_lengthWith_0 : decode cX3_lengthWith 0 = .ok (.iload_n 1, 1) := by decide +kernel
theorem dX3_lengthWith_1 : decode cX3_lengthWith 1 = .ok (.aload_n 0, 1) := by decide +kernel
theorem dX3_lengthWith_2 : decode cX3_lengthWith 2 = .ok (.iload_n 1, 1) := by decide +kernel
theorem dX3_lengthWith_3 : decode cX3_lengthWith 3 = .ok (.invokevirtual 74, 3) := by decide +kernel
theorem dX3_lengthWith_6 : decode cX3_lengthWith 6 = .ok (.iadd, 1) := by decide +kernel
theorem dX3_lengthWith_7 : decode cX3_lengthWith 7 = .ok (.ireturn, 1) := by decide +kernel
theorem dX3_endIfLength_0 : decode cX3_endIfLength 0 = .ok (.iload_n 1, 1) := by decide +kernel
theorem dX3_endIfLength_1 : decode cX3_endIfLength 1 = .ok (.istore_n 2, 1) := by decide +kernel
theorem dX3_endIfLength_2 : decode cX3_endIfLength 2 = .ok (.aload_n 0, 1) := by decide +kernel
theorem dX3_endIfLength_3 : decode cX3_endIfLength 3 = .ok (.astore_n 3, 1) := by decide +kernel
theorem dX3_endIfLength_4 : decode cX3_endIfLength 4 = .ok (.aload_n 0, 1) := by decide +kernel
theorem dX3_endIfLength_5 : decode cX3_endIfLength 5 = .ok (.getfield 31, 3) := by decide +kernel
theorem dX3_endIfLength_8 : decode cX3_endIfLength 8 = .ok (.astore 4, 2) := by decide +kernel
theorem dX3_endIfLength_10 : decode cX3_endIfLength 10 = .ok (.aload 4, 2) := by decide +kernel
theorem dX3_endIfLength_12 : decode cX3_endIfLength 12 = .ok (.ifnull 49, 3) := by decide +kernel
theorem dX3_endIfLength_15 : decode cX3_endIfLength 15 = .ok (.aload 4, 2) := by decide +kernel
theorem dX3_endIfLength_17 : decode cX3_endIfLength 17 = .ok (.aload_n 3, 1) := by decide +kernel
theorem dX3_endIfLength_18 : decode cX3_endIfLength 18 = .ok (.getfield 22, 3) := by decide +kernel
theorem dX3_endIfLength_21 : decode cX3_endIfLength 21 = .ok (.invokevirtual 78, 3) := by decide +kernel
theorem dX3_endIfLength_24 : decode cX3_endIfLength 24 = .ok (.aload_n 3, 1) := by decide +kernel
theorem dX3_endIfLength_25 : decode cX3_endIfLength 25 = .ok (.getfield 44, 3) := by decide +kernel
theorem dX3_endIfLength_28 : decode cX3_endIfLength 28 = .ok (.isub, 1) := by decide +kernel
theorem dX3_endIfLength_29 : decode cX3_endIfLength 29 = .ok (.iload_n 2, 1) := by decide +kernel
theorem dX3_endIfLength_30 : decode cX3_endIfLength 30 = .ok (.iadd, 1) := by decide +kernel
theorem dX3_endIfLength_31 : decode cX3_endIfLength 31 = .ok (.istore 5, 2) := by decide +kernel
theorem dX3_endIfLength_33 : decode cX3_endIfLength 33 = .ok (.iload 5, 2) := by decide +kernel
theorem dX3_endIfLength_35 : decode cX3_endIfLength 35 = .ok (.aload 4, 2) := by decide +kernel
theorem dX3_endIfLength_37 : decode cX3_endIfLength 37 = .ok (.aload_n 3, 1) := by decide +kernel
theorem dX3_endIfLength_38 : decode cX3_endIfLength 38 = .ok (.getfield 22, 3) := by decide +kernel
theorem dX3_endIfLength_41 : decode cX3_endIfLength 41 = .ok (.invokevirtual 81, 3) := by decide +kernel
theorem dX3_endIfLength_44 : decode cX3_endIfLength 44 = .ok (.invokestatic 68, 3) := by decide +kernel
theorem dX3_endIfLength_47 : decode cX3_endIfLength 47 = .ok (.istore_n 2, 1) := by decide +kernel
theorem dX3_endIfLength_48 : decode cX3_endIfLength 48 = .ok (.aload 4, 2) := by decide +kernel
theorem dX3_endIfLength_50 : decode cX3_endIfLength 50 = .ok (.astore_n 3, 1) := by decide +kernel
theorem dX3_endIfLength_51 : decode cX3_endIfLength 51 = .ok (.aload 4, 2) := by decide +kernel
theorem dX3_endIfLength_53 : decode cX3_endIfLength 53 = .ok (.getfield 31, 3) := by decide +kernel
theorem dX3_endIfLength_56 : decode cX3_endIfLength 56 = .ok (.astore 4, 2) := by decide +kernel
theorem dX3_endIfLength_58 : decode cX3_endIfLength 58 = .ok (.goto (-48), 3) := by decide +kernel
theorem dX3_endIfLength_61 : decode cX3_endIfLength 61 = .ok (.iload_n 2, 1) := by decide +kernel
theorem dX3_endIfLength_62 : decode cX3_endIfLength 62 = .ok (.ireturn, 1) := by decide +kernel
theorem dX3_value_0 : decode cX3_value 0 = .ok (.iload_n 1, 1) := by decide +kernel
theorem dX3_value_1 : decode cX3_value 1 = .ok (.tableswitch 166 0 11 #[63, 76, 81, 86, 91, 107, 123, 128, 133, 143, 148, 153], 63) := by decide +kernel
theorem dX3_value_64 : decode cX3_value 64 = .ok (.aload_n 0, 1) := by decide +kernel
theorem dX3_value_65 : decode cX3_value 65 = .ok (.getfield 15, 3) := by decide +kernel
theorem dX3_value_68 : decode cX3_value 68 = .ok (.ifCond .eq 7, 3) := by decide +kernel
theorem dX3_value_71 : decode cX3_value 71 = .ok (.iconst 1, 1) := by decide +kernel
theorem dX3_value_72 : decode cX3_value 72 = .ok (.goto 4, 3) := by decide +kernel
theorem dX3_value_75 : decode cX3_value 75 = .ok (.iconst 0, 1) := by decide +kernel
theorem dX3_value_76 : decode cX3_value 76 = .ok (.ireturn, 1) := by decide +kernel
theorem dX3_value_77 : decode cX3_value 77 = .ok (.aload_n 0, 1) := by decide +kernel
theorem dX3_value_78 : decode cX3_value 78 = .ok (.getfield 19, 3) := by decide +kernel
theorem dX3_value_81 : decode cX3_value 81 = .ok (.ireturn, 1) := by decide +kernel
theorem dX3_value_82 : decode cX3_value 82 = .ok (.aload_n 0, 1) := by decide +kernel
theorem dX3_value_83 : decode cX3_value 83 = .ok (.getfield 22, 3) := by decide +kernel
theorem dX3_value_86 : decode cX3_value 86 = .ok (.ireturn, 1) := by decide +kernel
theorem dX3_value_87 : decode cX3_value 87 = .ok (.aload_n 0, 1) := by decide +kernel
theorem dX3_value_88 : decode cX3_value 88 = .ok (.getfield 38, 3) := by decide +kernel
theorem dX3_value_91 : decode cX3_value 91 = .ok (.ireturn, 1) := by decide +kernel
theorem dX3_value_92 : decode cX3_value 92 = .ok (.aload_n 0, 1) := by decide +kernel
theorem dX3_value_93 : decode cX3_value 93 = .ok (.getfield 15, 3) := by decide +kernel
theorem dX3_value_96 : decode cX3_value 96 = .ok (.ifCond .eq 10, 3) := by decide +kernel
theorem dX3_value_99 : decode cX3_value 99 = .ok (.aload_n 0, 1) := by decide +kernel
theorem dX3_value_100 : decode cX3_value 100 = .ok (.getfield 25, 3) := by decide +kernel
theorem dX3_value_103 : decode cX3_value 103 = .ok (.goto 4, 3) := by decide +kernel
theorem dX3_value_106 : decode cX3_value 106 = .ok (.iconst (-1), 1) := by decide +kernel
theorem dX3_value_107 : decode cX3_value 107 = .ok (.ireturn, 1) := by decide +kernel
theorem dX3_value_108 : decode cX3_value 108 = .ok (.aload_n 0, 1) := by decide +kernel
theorem dX3_value_109 : decode cX3_value 109 = .ok (.getfield 15, 3) := by decide +kernel
theorem dX3_value_112 : decode cX3_value 112 = .ok (.ifCond .eq 10, 3) := by decide +kernel
theorem dX3_value_115 : decode cX3_value 115 = .ok (.aload_n 0, 1) := by decide +kernel
theorem dX3_value_116 : decode cX3_value 116 = .ok (.getfield 28, 3) := by decide +kernel
theorem dX3_value_119 : decode cX3_value 119 = .ok (.goto 4, 3) := by decide +kernel
theorem dX3_value_122 : decode cX3_value 122 = .ok (.iconst (-1), 1) := by decide +kernel
theorem dX3_value_123 : decode cX3_value 123 = .ok (.ireturn, 1) := by decide +kernel
theorem dX3_value_124 : decode cX3_value 124 = .ok (.aload_n 0, 1) := by decide +kernel
theorem dX3_value_125 : decode cX3_value 125 = .ok (.getfield 44, 3) := by decide +kernel
theorem dX3_value_128 : decode cX3_value 128 = .ok (.ireturn, 1) := by decide +kernel
theorem dX3_value_129 : decode cX3_value 129 = .ok (.aload_n 0, 1) := by decide +kernel
theorem dX3_value_130 : decode cX3_value 130 = .ok (.getfield 47, 3) := by decide +kernel
theorem dX3_value_133 : decode cX3_value 133 = .ok (.ireturn, 1) := by decide +kernel
theorem dX3_value_134 : decode cX3_value 134 = .ok (.aload_n 0, 1) := by decide +kernel
theorem dX3_value_135 : decode cX3_value 135 = .ok (.getfield 47, 3) := by decide +kernel
theorem dX3_value_138 : decode cX3_value 138 = .ok (.aload_n 0, 1) := by decide +kernel
theorem dX3_value_139 : decode cX3_value 139 = .ok (.getfield 53, 3) := by decide +kernel
theorem dX3_value_142 : decode cX3_value 142 = .ok (.iadd, 1) := by decide +kernel
theorem dX3_value_143 : decode cX3_value 143 = .ok (.ireturn, 1) := by decide +kernel
theorem dX3_value_144 : decode cX3_value 144 = .ok (.aload_n 0, 1) := by decide +kernel
theorem dX3_value_145 : decode cX3_value 145 = .ok (.getfield 53, 3) := by decide +kernel
theorem dX3_value_148 : decode cX3_value 148 = .ok (.ireturn, 1) := by decide +kernel
theorem dX3_value_149 : decode cX3_value 149 = .ok (.aload_n 0, 1) := by decide +kernel
theorem dX3_value_150 : decode cX3_value 150 = .ok (.getfield 50, 3) := by decide +kernel
theorem dX3_value_153 : decode cX3_value 153 = .ok (.ireturn, 1) := by decide +kernel
theorem dX3_value_154 : decode cX3_value 154 = .ok (.aload_n 0, 1) := by decide +kernel
theorem dX3_value_155 : decode cX3_value 155 = .ok (.invokevirtual 60, 3) := by decide +kernel
theorem dX3_value_158 : decode cX3_value 158 = .ok (.ifCond .eq 7, 3) := by decide +kernel
theorem dX3_value_161 : decode cX3_value 161 = .ok (.iconst 1, 1) := by decide +kernel
theorem dX3_value_162 : decode cX3_value 162 = .ok (.goto 4, 3) := by decide +kernel
theorem dX3_value_165 : decode cX3_value 165 = .ok (.iconst 0, 1) := by decide +kernel
theorem dX3_value_166 : decode cX3_value 166 = .ok (.ireturn, 1) := by decide +kernel
theorem dX3_value_167 : decode cX3_value 167 = .ok (.aload_n 0, 1) := by decide +kernel
theorem dX3_value_168 : decode cX3_value 168 = .ok (.getfield 41, 3) := by decide +kernel
theorem dX3_value_171 : decode cX3_value 171 = .ok (.ireturn, 1) := by decide +kernel
theorem dX5_init_0 : decode cX5_init 0 = .ok (.aload_n 0, 1) := by decide +kernel
theorem dX5_init_1 : decode cX5_init 1 = .ok (.invokespecial 3, 3) := by decide +kernel
theorem dX5_init_4 : decode cX5_init 4 = .ok (.aload_n 0, 1) := by decide +kernel
theorem dX5_init_5 : decode cX5_init 5 = .ok (.bipush 24, 2) := by decide +kernel
theorem dX5_init_7 : decode cX5_init 7 = .ok (.anewarray 9, 3) := by decide +kernel
theorem dX5_init_10 : decode cX5_init 10 = .ok (.putfield 11, 3) := by decide +kernel
theorem dX5_init_13 : decode cX5_init 13 = .ok (.aload_n 0, 1) := by decide +kernel
theorem dX5_init_14 : decode cX5_init 14 = .ok (.bipush 24, 2) := by decide +kernel
theorem dX5_init_16 : decode cX5_init 16 = .ok (.anewarray 9, 3) := by decide +kernel
theorem dX5_init_19 : decode cX5_init 19 = .ok (.putfield 17, 3) := by decide +kernel
theorem dX5_init_22 : decode cX5_init 22 = .ok (.aload_n 0, 1) := by decide +kernel
theorem dX5_init_23 : decode cX5_init 23 = .ok (.iconst 1, 1) := by decide +kernel
theorem dX5_init_24 : decode cX5_init 24 = .ok (.putfield 20, 3) := by decide +kernel
theorem dX5_init_27 : decode cX5_init 27 = .ok (.aload_n 0, 1) := by decide +kernel
theorem dX5_init_28 : decode cX5_init 28 = .ok (.iconst 1, 1) := by decide +kernel
theorem dX5_init_29 : decode cX5_init 29 = .ok (.putfield 24, 3) := by decide +kernel
theorem dX5_init_32 : decode cX5_init 32 = .ok (.aload_n 0, 1) := by decide +kernel
theorem dX5_init_33 : decode cX5_init 33 = .ok (.bipush 99, 2) := by decide +kernel
theorem dX5_init_35 : decode cX5_init 35 = .ok (.putfield 27, 3) := by decide +kernel
theorem dX5_init_38 : decode cX5_init 38 = .ok (.iconst 0, 1) := by decide +kernel
theorem dX5_init_39 : decode cX5_init 39 = .ok (.istore_n 1, 1) := by decide +kernel
theorem dX5_init_40 : decode cX5_init 40 = .ok (.iload_n 1, 1) := by decide +kernel
theorem dX5_init_41 : decode cX5_init 41 = .ok (.bipush 24, 2) := by decide +kernel
theorem dX5_init_43 : decode cX5_init 43 = .ok (.if_icmp .ge 34, 3) := by decide +kernel
theorem dX5_init_46 : decode cX5_init 46 = .ok (.aload_n 0, 1) := by decide +kernel
theorem dX5_init_47 : decode cX5_init 47 = .ok (.getfield 11, 3) := by decide +kernel
theorem dX5_init_50 : decode cX5_init 50 = .ok (.iload_n 1, 1) := by decide +kernel
theorem dX5_init_51 : decode cX5_init 51 = .ok (.new 9, 3) := by decide +kernel
theorem dX5_init_54 : decode cX5_init 54 = .ok (.dup, 1) := by decide +kernel
theorem dX5_init_55 : decode cX5_init 55 = .ok (.invokespecial 30, 3) := by decide +kernel
theorem dX5_init_58 : decode cX5_init 58 = .ok (.aastore, 1) := by decide +kernel
theorem dX5_init_59 : decode cX5_init 59 = .ok (.aload_n 0, 1) := by decide +kernel
theorem dX5_init_60 : decode cX5_init 60 = .ok (.getfield 17, 3) := by decide +kernel
theorem dX5_init_63 : decode cX5_init 63 = .ok (.iload_n 1, 1) := by decide +kernel
theorem dX5_init_64 : decode cX5_init 64 = .ok (.aload_n 0, 1) := by decide +kernel
theorem dX5_init_65 : decode cX5_init 65 = .ok (.getfield 11, 3) := by decide +kernel
theorem dX5_init_68 : decode cX5_init 68 = .ok (.iload_n 1, 1) := by decide +kernel
theorem dX5_init_69 : decode cX5_init 69 = .ok (.aaload, 1) := by decide +kernel
theorem dX5_init_70 : decode cX5_init 70 = .ok (.aastore, 1) := by decide +kernel
theorem dX5_init_71 : decode cX5_init 71 = .ok (.iinc 1 1, 3) := by decide +kernel
theorem dX5_init_74 : decode cX5_init 74 = .ok (.goto (-34), 3) := by decide +kernel
theorem dX5_init_77 : decode cX5_init 77 = .ok (.return_, 1) := by decide +kernel
theorem dX5_copyFrom_0 : decode cX5_copyFrom 0 = .ok (.aload_n 0, 1) := by decide +kernel
theorem dX5_copyFrom_1 : decode cX5_copyFrom 1 = .ok (.aload_n 1, 1) := by decide +kernel
theorem dX5_copyFrom_2 : decode cX5_copyFrom 2 = .ok (.getfield 20, 3) := by decide +kernel
theorem dX5_copyFrom_5 : decode cX5_copyFrom 5 = .ok (.putfield 20, 3) := by decide +kernel
theorem dX5_copyFrom_8 : decode cX5_copyFrom 8 = .ok (.aload_n 0, 1) := by decide +kernel
theorem dX5_copyFrom_9 : decode cX5_copyFrom 9 = .ok (.aload_n 1, 1) := by decide +kernel
theorem dX5_copyFrom_10 : decode cX5_copyFrom 10 = .ok (.getfield 24, 3) := by decide +kernel
theorem dX5_copyFrom_13 : decode cX5_copyFrom 13 = .ok (.putfield 24, 3) := by decide +kernel
theorem dX5_copyFrom_16 : decode cX5_copyFrom 16 = .ok (.aload_n 0, 1) := by decide +kernel
theorem dX5_copyFrom_17 : decode cX5_copyFrom 17 = .ok (.aload_n 1, 1) := by decide +kernel
theorem dX5_copyFrom_18 : decode cX5_copyFrom 18 = .ok (.getfield 27, 3) := by decide +kernel
theorem dX5_copyFrom_21 : decode cX5_copyFrom 21 = .ok (.putfield 27, 3) := by decide +kernel
theorem dX5_copyFrom_24 : decode cX5_copyFrom 24 = .ok (.iconst 0, 1) := by decide +kernel
theorem dX5_copyFrom_25 : decode cX5_copyFrom 25 = .ok (.istore_n 2, 1) := by decide +kernel
theorem dX5_copyFrom_26 : decode cX5_copyFrom 26 = .ok (.iload_n 2, 1) := by decide +kernel
theorem dX5_copyFrom_27 : decode cX5_copyFrom 27 = .ok (.bipush 24, 2) := by decide +kernel
theorem dX5_copyFrom_29 : decode cX5_copyFrom 29 = .ok (.if_icmp .ge 24, 3) := by decide +kernel
theorem dX5_copyFrom_32 : decode cX5_copyFrom 32 = .ok (.aload_n 0, 1) := by decide +kernel
theorem dX5_copyFrom_33 : decode cX5_copyFrom 33 = .ok (.getfield 11, 3) := by decide +kernel
theorem dX5_copyFrom_36 : decode cX5_copyFrom 36 = .ok (.iload_n 2, 1) := by decide +kernel
theorem dX5_copyFrom_37 : decode cX5_copyFrom 37 = .ok (.aaload, 1) := by decide +kernel
theorem dX5_copyFrom_38 : decode cX5_copyFrom 38 = .ok (.aload_n 1, 1) := by decide +kernel
theorem dX5_copyFrom_39 : decode cX5_copyFrom 39 = .ok (.getfield 11, 3) := by decide +kernel
theorem dX5_copyFrom_42 : decode cX5_copyFrom 42 = .ok (.iload_n 2, 1) := by decide +kernel
theorem dX5_copyFrom_43 : decode cX5_copyFrom 43 = .ok (.aaload, 1) := by decide +kernel
theorem dX5_copyFrom_44 : decode cX5_copyFrom 44 = .ok (.invokevirtual 31, 3) := by decide +kernel
theorem dX5_copyFrom_47 : decode cX5_copyFrom 47 = .ok (.iinc 2 1, 3) := by decide +kernel
theorem dX5_copyFrom_50 : decode cX5_copyFrom 50 = .ok (.goto (-24), 3) := by decide +kernel
theorem dX5_copyFrom_53 : decode cX5_copyFrom 53 = .ok (.return_, 1) := by decide +kernel
theorem dX5_find_0 : decode cX5_find 0 = .ok (.iconst 0, 1) := by decide +kernel
theorem dX5_find_1 : decode cX5_find 1 = .ok (.istore_n 2, 1) := by decide +kernel
theorem dX5_find_2 : decode cX5_find 2 = .ok (.iload_n 2, 1) := by decide +kernel
theorem dX5_find_3 : decode cX5_find 3 = .ok (.aload_n 0, 1) := by decide +kernel
theorem dX5_find_4 : decode cX5_find 4 = .ok (.getfield 20, 3) := by decide +kernel
theorem dX5_find_7 : decode cX5_find 7 = .ok (.if_icmp .ge 29, 3) := by decide +kernel
theorem dX5_find_10 : decode cX5_find 10 = .ok (.aload_n 0, 1) := by decide +kernel
theorem dX5_find_11 : decode cX5_find 11 = .ok (.getfield 11, 3) := by decide +kernel
theorem dX5_find_14 : decode cX5_find 14 = .ok (.iload_n 2, 1) := by decide +kernel
theorem dX5_find_15 : decode cX5_find 15 = .ok (.aaload, 1) := by decide +kernel
theorem dX5_find_16 : decode cX5_find 16 = .ok (.getfield 35, 3) := by decide +kernel
theorem dX5_find_19 : decode cX5_find 19 = .ok (.iload_n 1, 1) := by decide +kernel
theorem dX5_find_20 : decode cX5_find 20 = .ok (.if_icmp .ne 10, 3) := by decide +kernel
theorem dX5_find_23 : decode cX5_find 23 = .ok (.aload_n 0, 1) := by decide +kernel
theorem dX5_find_24 : decode cX5_find 24 = .ok (.getfield 11, 3) := by decide +kernel
theorem dX5_find_27 : decode cX5_find 27 = .ok (.iload_n 2, 1) := by decide +kernel
theorem dX5_find_28 : decode cX5_find 28 = .ok (.aaload, 1) := by decide +kernel
theorem dX5_find_29 : decode cX5_find 29 = .ok (.areturn, 1) := by decide +kernel
theorem dX5_find_30 : decode cX5_find 30 = .ok (.iinc 2 1, 3) := by decide +kernel
theorem dX5_find_33 : decode cX5_find 33 = .ok (.goto (-31), 3) := by decide +kernel
theorem dX5_find_36 : decode cX5_find 36 = .ok (.aconst_null, 1) := by decide +kernel
theorem dX5_find_37 : decode cX5_find 37 = .ok (.areturn, 1) := by decide +kernel
theorem dX5_plan_0 : decode cX5_plan 0 = .ok (.aload_n 0, 1) := by decide +kernel
theorem dX5_plan_1 : decode cX5_plan 1 = .ok (.invokevirtual 38, 3) := by decide +kernel
theorem dX5_plan_4 : decode cX5_plan 4 = .ok (.aload_n 0, 1) := by decide +kernel
theorem dX5_plan_5 : decode cX5_plan 5 = .ok (.invokevirtual 41, 3) := by decide +kernel
theorem dX5_plan_8 : decode cX5_plan 8 = .ok (.iconst 0, 1) := by decide +kernel
theorem dX5_plan_9 : decode cX5_plan 9 = .ok (.istore_n 1, 1) := by decide +kernel
theorem dX5_plan_10 : decode cX5_plan 10 = .ok (.iload_n 1, 1) := by decide +kernel
theorem dX5_plan_11 : decode cX5_plan 11 = .ok (.aload_n 0, 1) := by decide +kernel
theorem dX5_plan_12 : decode cX5_plan 12 = .ok (.getfield 20, 3) := by decide +kernel
theorem dX5_plan_15 : decode cX5_plan 15 = .ok (.if_icmp .ge 19, 3) := by decide +kernel
theorem dX5_plan_18 : decode cX5_plan 18 = .ok (.aload_n 0, 1) := by decide +kernel
theorem dX5_plan_19 : decode cX5_plan 19 = .ok (.aload_n 0, 1) := by decide +kernel
theorem dX5_plan_20 : decode cX5_plan 20 = .ok (.getfield 17, 3) := by decide +kernel
theorem dX5_plan_23 : decode cX5_plan 23 = .ok (.iload_n 1, 1) := by decide +kernel
theorem dX5_plan_24 : decode cX5_plan 24 = .ok (.aaload, 1) := by decide +kernel
theorem dX5_plan_25 : decode cX5_plan 25 = .ok (.invokevirtual 44, 3) := by decide +kernel
theorem dX5_plan_28 : decode cX5_plan 28 = .ok (.iinc 1 1, 3) := by decide +kernel
theorem dX5_plan_31 : decode cX5_plan 31 = .ok (.goto (-21), 3) := by decide +kernel
theorem dX5_plan_34 : decode cX5_plan 34 = .ok (.return_, 1) := by decide +kernel
theorem dX5_findOrder_0 : decode cX5_findOrder 0 = .ok (.aload_n 0, 1) := by decide +kernel
theorem dX5_findOrder_1 : decode cX5_findOrder 1 = .ok (.getfield 17, 3) := by decide +kernel
theorem dX5_findOrder_4 : decode cX5_findOrder 4 = .ok (.iconst 0, 1) := by decide +kernel
theorem dX5_findOrder_5 : decode cX5_findOrder 5 = .ok (.aload_n 0, 1) := by decide +kernel
theorem dX5_findOrder_6 : decode cX5_findOrder 6 = .ok (.getfield 11, 3) := by decide +kernel
theorem dX5_findOrder_9 : decode cX5_findOrder 9 = .ok (.iconst 0, 1) := by decide +kernel
theorem dX5_findOrder_10 : decode cX5_findOrder 10 = .ok (.aaload, 1) := by decide +kernel
theorem dX5_findOrder_11 : decode cX5_findOrder 11 = .ok (.aastore, 1) := by decide +kernel
theorem dX5_findOrder_12 : decode cX5_findOrder 12 = .ok (.iconst 1, 1) := by decide +kernel
theorem dX5_findOrder_13 : decode cX5_findOrder 13 = .ok (.istore_n 1, 1) := by decide +kernel
theorem dX5_findOrder_14 : decode cX5_findOrder 14 = .ok (.iconst 0, 1) := by decide +kernel
theorem dX5_findOrder_15 : decode cX5_findOrder 15 = .ok (.istore_n 2, 1) := by decide +kernel
theorem dX5_findOrder_16 : decode cX5_findOrder 16 = .ok (.iload_n 2, 1) := by decide +kernel
theorem dX5_findOrder_17 : decode cX5_findOrder 17 = .ok (.iload_n 1, 1) := by decide +kernel
theorem dX5_findOrder_18 : decode cX5_findOrder 18 = .ok (.if_icmp .ge 89, 3) := by decide +kernel
theorem dX5_findOrder_21 : decode cX5_findOrder 21 = .ok (.aload_n 0, 1) := by decide +kernel
theorem dX5_findOrder_22 : decode cX5_findOrder 22 = .ok (.getfield 17, 3) := by decide +kernel
theorem dX5_findOrder_25 : decode cX5_findOrder 25 = .ok (.iload_n 2, 1) := by decide +kernel
theorem dX5_findOrder_26 : decode cX5_findOrder 26 = .ok (.aaload, 1) := by decide +kernel
theorem dX5_findOrder_27 : decode cX5_findOrder 27 = .ok (.astore_n 3, 1) := by decide +kernel
theorem dX5_findOrder_28 : decode cX5_findOrder 28 = .ok (.iconst 1, 1) := by decide +kernel
theorem dX5_findOrder_29 : decode cX5_findOrder 29 = .ok (.istore 4, 2) := by decide +kernel
theorem dX5_findOrder_31 : decode cX5_findOrder 31 = .ok (.iload 4, 2) := by decide +kernel
theorem dX5_findOrder_33 : decode cX5_findOrder 33 = .ok (.aload_n 0, 1) := by decide +kernel
theorem dX5_findOrder_34 : decode cX5_findOrder 34 = .ok (.getfield 20, 3) := by decide +kernel
theorem dX5_findOrder_37 : decode cX5_findOrder 37 = .ok (.if_icmp .ge 64, 3) := by decide +kernel
theorem dX5_findOrder_40 : decode cX5_findOrder 40 = .ok (.aload_n 0, 1) := by decide +kernel
theorem dX5_findOrder_41 : decode cX5_findOrder 41 = .ok (.getfield 11, 3) := by decide +kernel
theorem dX5_findOrder_44 : decode cX5_findOrder 44 = .ok (.iload 4, 2) := by decide +kernel
theorem dX5_findOrder_46 : decode cX5_findOrder 46 = .ok (.aaload, 1) := by decide +kernel
theorem dX5_findOrder_47 : decode cX5_findOrder 47 = .ok (.astore 5, 2) := by decide +kernel
theorem dX5_findOrder_49 : decode cX5_findOrder 49 = .ok (.aload 5, 2) := by decide +kernel
theorem dX5_findOrder_51 : decode cX5_findOrder 51 = .ok (.getfield 47, 3) := by decide +kernel
theorem dX5_findOrder_54 : decode cX5_findOrder 54 = .ok (.aload_n 3, 1) := by decide +kernel
theorem dX5_findOrder_55 : decode cX5_findOrder 55 = .ok (.getfield 35, 3) := by decide +kernel
theorem dX5_findOrder_58 : decode cX5_findOrder 58 = .ok (.if_icmp .ne 37, 3) := by decide +kernel
theorem dX5_findOrder_61 : decode cX5_findOrder 61 = .ok (.iload_n 1, 1) := by decide +kernel
theorem dX5_findOrder_62 : decode cX5_findOrder 62 = .ok (.bipush 24, 2) := by decide +kernel
theorem dX5_findOrder_64 : decode cX5_findOrder 64 = .ok (.if_icmp .ge 31, 3) := by decide +kernel
theorem dX5_findOrder_67 : decode cX5_findOrder 67 = .ok (.aload 5, 2) := by decide +kernel
theorem dX5_findOrder_69 : decode cX5_findOrder 69 = .ok (.aload_n 3, 1) := by decide +kernel
theorem dX5_findOrder_70 : decode cX5_findOrder 70 = .ok (.putfield 50, 3) := by decide +kernel
theorem dX5_findOrder_73 : decode cX5_findOrder 73 = .ok (.aload 5, 2) := by decide +kernel
theorem dX5_findOrder_75 : decode cX5_findOrder 75 = .ok (.aload_n 0, 1) := by decide +kernel
theorem dX5_findOrder_76 : decode cX5_findOrder 76 = .ok (.iload 4, 2) := by decide +kernel
theorem dX5_findOrder_78 : decode cX5_findOrder 78 = .ok (.invokevirtual 54, 3) := by decide +kernel
theorem dX5_findOrder_81 : decode cX5_findOrder 81 = .ok (.putfield 58, 3) := by decide +kernel
theorem dX5_findOrder_84 : decode cX5_findOrder 84 = .ok (.aload_n 0, 1) := by decide +kernel
theorem dX5_findOrder_85 : decode cX5_findOrder 85 = .ok (.getfield 17, 3) := by decide +kernel
theorem dX5_findOrder_88 : decode cX5_findOrder 88 = .ok (.iload_n 1, 1) := by decide +kernel
theorem dX5_findOrder_89 : decode cX5_findOrder 89 = .ok (.aload 5, 2) := by decide +kernel
theorem dX5_findOrder_91 : decode cX5_findOrder 91 = .ok (.aastore, 1) := by decide +kernel
theorem dX5_findOrder_92 : decode cX5_findOrder 92 = .ok (.iinc 1 1, 3) := by decide +kernel
theorem dX5_findOrder_95 : decode cX5_findOrder 95 = .ok (.iinc 4 1, 3) := by decide +kernel
theorem dX5_findOrder_98 : decode cX5_findOrder 98 = .ok (.goto (-67), 3) := by decide +kernel
theorem dX5_findOrder_101 : decode cX5_findOrder 101 = .ok (.iinc 2 1, 3) := by decide +kernel
theorem dX5_findOrder_104 : decode cX5_findOrder 104 = .ok (.goto (-88), 3) := by decide +kernel
theorem dX5_findOrder_107 : decode cX5_findOrder 107 = .ok (.return_, 1) := by decide +kernel
theorem dX5_findAhead_0 : decode cX5_findAhead 0 = .ok (.aload_n 0, 1) := by decide +kernel
theorem dX5_findAhead_1 : decode cX5_findAhead 1 = .ok (.getfield 11, 3) := by decide +kernel
theorem dX5_findAhead_4 : decode cX5_findAhead 4 = .ok (.iload_n 1, 1) := by decide +kernel
theorem dX5_findAhead_5 : decode cX5_findAhead 5 = .ok (.aaload, 1) := by decide +kernel
theorem dX5_findAhead_6 : decode cX5_findAhead 6 = .ok (.astore_n 2, 1) := by decide +kernel
theorem dX5_findAhead_7 : decode cX5_findAhead 7 = .ok (.iload_n 1, 1) := by decide +kernel
theorem dX5_findAhead_8 : decode cX5_findAhead 8 = .ok (.iconst 1, 1) := by decide +kernel
theorem dX5_findAhead_9 : decode cX5_findAhead 9 = .ok (.isub, 1) := by decide +kernel
theorem dX5_findAhead_10 : decode cX5_findAhead 10 = .ok (.istore_n 3, 1) := by decide +kernel
theorem dX5_findAhead_11 : decode cX5_findAhead 11 = .ok (.iload_n 3, 1) := by decide +kernel
theorem dX5_findAhead_12 : decode cX5_findAhead 12 = .ok (.ifCond .le 44, 3) := by decide +kernel
theorem dX5_findAhead_15 : decode cX5_findAhead 15 = .ok (.aload_n 0, 1) := by decide +kernel
theorem dX5_findAhead_16 : decode cX5_findAhead 16 = .ok (.getfield 11, 3) := by decide +kernel
theorem dX5_findAhead_19 : decode cX5_findAhead 19 = .ok (.iload_n 3, 1) := by decide +kernel
theorem dX5_findAhead_20 : decode cX5_findAhead 20 = .ok (.aaload, 1) := by decide +kernel
theorem dX5_findAhead_21 : decode cX5_findAhead 21 = .ok (.astore 4, 2) := by decide +kernel
theorem dX5_findAhead_23 : decode cX5_findAhead 23 = .ok (.aload 4, 2) := by decide +kernel
theorem dX5_findAhead_25 : decode cX5_findAhead 25 = .ok (.getfield 47, 3) := by decide +kernel
theorem dX5_findAhead_28 : decode cX5_findAhead 28 = .ok (.aload_n 2, 1) := by decide +kernel
theorem dX5_findAhead_29 : decode cX5_findAhead 29 = .ok (.getfield 47, 3) := by decide +kernel
theorem dX5_findAhead_32 : decode cX5_findAhead 32 = .ok (.if_icmp .ne 18, 3) := by decide +kernel
theorem dX5_findAhead_35 : decode cX5_findAhead 35 = .ok (.aload 4, 2) := by decide +kernel
theorem dX5_findAhead_37 : decode cX5_findAhead 37 = .ok (.getfield 61, 3) := by decide +kernel
theorem dX5_findAhead_40 : decode cX5_findAhead 40 = .ok (.aload_n 2, 1) := by decide +kernel
theorem dX5_findAhead_41 : decode cX5_findAhead 41 = .ok (.getfield 61, 3) := by decide +kernel
theorem dX5_findAhead_44 : decode cX5_findAhead 44 = .ok (.if_icmp .ne 6, 3) := by decide +kernel
theorem dX5_findAhead_47 : decode cX5_findAhead 47 = .ok (.aload 4, 2) := by decide +kernel
theorem dX5_findAhead_49 : decode cX5_findAhead 49 = .ok (.areturn, 1) := by decide +kernel
theorem dX5_findAhead_50 : decode cX5_findAhead 50 = .ok (.iinc 3 (-1), 3) := by decide +kernel
theorem dX5_findAhead_53 : decode cX5_findAhead 53 = .ok (.goto (-42), 3) := by decide +kernel
theorem dX5_findAhead_56 : decode cX5_findAhead 56 = .ok (.aconst_null, 1) := by decide +kernel
theorem dX5_findAhead_57 : decode cX5_findAhead 57 = .ok (.areturn, 1) := by decide +kernel
theorem dX5_measureLengths_0 : decode cX5_measureLengths 0 = .ok (.iconst 0, 1) := by decide +kernel
theorem dX5_measureLengths_1 : decode cX5_measureLengths 1 = .ok (.istore_n 1, 1) := by decide +kernel
theorem dX5_measureLengths_2 : decode cX5_measureLengths 2 = .ok (.iload_n 1, 1) := by decide +kernel
theorem dX5_measureLengths_3 : decode cX5_measureLengths 3 = .ok (.aload_n 0, 1) := by decide +kernel
theorem dX5_measureLengths_4 : decode cX5_measureLengths 4 = .ok (.getfield 20, 3) := by decide +kernel
theorem dX5_measureLengths_7 : decode cX5_measureLengths 7 = .ok (.if_icmp .ge 34, 3) := by decide +kernel
theorem dX5_measureLengths_10 : decode cX5_measureLengths 10 = .ok (.iconst 0, 1) := by decide +kernel
theorem dX5_measureLengths_11 : decode cX5_measureLengths 11 = .ok (.istore_n 2, 1) := by decide +kernel
theorem dX5_measureLengths_12 : decode cX5_measureLengths 12 = .ok (.iload_n 2, 1) := by decide +kernel
theorem dX5_measureLengths_13 : decode cX5_measureLengths 13 = .ok (.iconst 4, 1) := by decide +kernel
theorem dX5_measureLengths_14 : decode cX5_measureLengths 14 = .ok (.if_icmp .ge 21, 3) := by decide +kernel
theorem dX5_measureLengths_17 : decode cX5_measureLengths 17 = .ok (.aload_n 0, 1) := by decide +kernel
theorem dX5_measureLengths_18 : decode cX5_measureLengths 18 = .ok (.getfield 11, 3) := by decide +kernel
theorem dX5_measureLengths_21 : decode cX5_measureLengths 21 = .ok (.iload_n 1, 1) := by decide +kernel
theorem dX5_measureLengths_22 : decode cX5_measureLengths 22 = .ok (.aaload, 1) := by decide +kernel
theorem dX5_measureLengths_23 : decode cX5_measureLengths 23 = .ok (.getfield 64, 3) := by decide +kernel
theorem dX5_measureLengths_26 : decode cX5_measureLengths 26 = .ok (.iload_n 2, 1) := by decide +kernel
theorem dX5_measureLengths_27 : decode cX5_measureLengths 27 = .ok (.iconst 0, 1) := by decide +kernel
theorem dX5_measureLengths_28 : decode cX5_measureLengths 28 = .ok (.iastore, 1) := by decide +kernel
theorem dX5_measureLengths_29 : decode cX5_measureLengths 29 = .ok (.iinc 2 1, 3) := by decide +kernel
theorem dX5_measureLengths_32 : decode cX5_measureLengths 32 = .ok (.goto (-20), 3) := by decide +kernel
theorem dX5_measureLengths_35 : decode cX5_measureLengths 35 = .ok (.iinc 1 1, 3) := by decide +kernel
theorem dX5_measureLengths_38 : decode cX5_measureLengths 38 = .ok (.goto (-36), 3) := by decide +kernel
theorem dX5_measureLengths_41 : decode cX5_measureLengths 41 = .ok (.aload_n 0, 1) := by decide +kernel
theorem dX5_measureLengths_42 : decode cX5_measureLengths 42 = .ok (.getfield 20, 3) := by decide +kernel
theorem dX5_measureLengths_45 : decode cX5_measureLengths 45 = .ok (.iconst 1, 1) := by decide +kernel
theorem dX5_measureLengths_46 : decode cX5_measureLengths 46 = .ok (.isub, 1) := by decide +kernel
theorem dX5_measureLengths_47 : decode cX5_measureLengths 47 = .ok (.istore_n 1, 1) := by decide +kernel
theorem dX5_measureLengths_48 : decode cX5_measureLengths 48 = .ok (.iload_n 1, 1) := by decide +kernel
theorem dX5_measureLengths_49 : decode cX5_measureLengths 49 = .ok (.ifCond .lt 66, 3) := by decide +kernel
theorem dX5_measureLengths_52 : decode cX5_measureLengths 52 = .ok (.aload_n 0, 1) := by decide +kernel
theorem dX5_measureLengths_53 : decode cX5_measureLengths 53 = .ok (.getfield 17, 3) := by decide +kernel
theorem dX5_measureLengths_56 : decode cX5_measureLengths 56 = .ok (.iload_n 1, 1) := by decide +kernel
theorem dX5_measureLengths_57 : decode cX5_measureLengths 57 = .ok (.aaload, 1) := by decide +kernel
theorem dX5_measureLengths_58 : decode cX5_measureLengths 58 = .ok (.astore_n 2, 1) := by decide +kernel
theorem dX5_measureLengths_59 : decode cX5_measureLengths 59 = .ok (.aload_n 2, 1) := by decide +kernel
theorem dX5_measureLengths_60 : decode cX5_measureLengths 60 = .ok (.aload_n 2, 1) := by decide +kernel
theorem dX5_measureLengths_61 : decode cX5_measureLengths 61 = .ok (.getfield 68, 3) := by decide +kernel
theorem dX5_measureLengths_64 : decode cX5_measureLengths 64 = .ok (.ifCond .eq 15, 3) := by decide +kernel
theorem dX5_measureLengths_67 : decode cX5_measureLengths 67 = .ok (.aload_n 2, 1) := by decide +kernel
theorem dX5_measureLengths_68 : decode cX5_measureLengths 68 = .ok (.getfield 72, 3) := by decide +kernel
theorem dX5_measureLengths_71 : decode cX5_measureLengths 71 = .ok (.aload_n 2, 1) := by decide +kernel
theorem dX5_measureLengths_72 : decode cX5_measureLengths 72 = .ok (.getfield 75, 3) := by decide +kernel
theorem dX5_measureLengths_75 : decode cX5_measureLengths 75 = .ok (.iadd, 1) := by decide +kernel
theorem dX5_measureLengths_76 : decode cX5_measureLengths 76 = .ok (.goto 8, 3) := by decide +kernel
theorem dX5_measureLengths_79 : decode cX5_measureLengths 79 = .ok (.aload_n 2, 1) := by decide +kernel
theorem dX5_measureLengths_80 : decode cX5_measureLengths 80 = .ok (.iconst (-1), 1) := by decide +kernel
theorem dX5_measureLengths_81 : decode cX5_measureLengths 81 = .ok (.invokevirtual 78, 3) := by decide +kernel
theorem dX5_measureLengths_84 : decode cX5_measureLengths 84 = .ok (.putfield 82, 3) := by decide +kernel
theorem dX5_measureLengths_87 : decode cX5_measureLengths 87 = .ok (.aload_n 2, 1) := by decide +kernel
theorem dX5_measureLengths_88 : decode cX5_measureLengths 88 = .ok (.getfield 50, 3) := by decide +kernel
theorem dX5_measureLengths_91 : decode cX5_measureLengths 91 = .ok (.ifnull 18, 3) := by decide +kernel
theorem dX5_measureLengths_94 : decode cX5_measureLengths 94 = .ok (.aload_n 2, 1) := by decide +kernel
theorem dX5_measureLengths_95 : decode cX5_measureLengths 95 = .ok (.getfield 50, 3) := by decide +kernel
theorem dX5_measureLengths_98 : decode cX5_measureLengths 98 = .ok (.aload_n 2, 1) := by decide +kernel
theorem dX5_measureLengths_99 : decode cX5_measureLengths 99 = .ok (.getfield 61, 3) := by decide +kernel
theorem dX5_measureLengths_102 : decode cX5_measureLengths 102 = .ok (.aload_n 2, 1) := by decide +kernel
theorem dX5_measureLengths_103 : decode cX5_measureLengths 103 = .ok (.getfield 82, 3) := by decide +kernel
theorem dX5_measureLengths_106 : decode cX5_measureLengths 106 = .ok (.invokevirtual 85, 3) := by decide +kernel
theorem dX5_measureLengths_109 : decode cX5_measureLengths 109 = .ok (.iinc 1 (-1), 3) := by decide +kernel
theorem dX5_measureLengths_112 : decode cX5_measureLengths 112 = .ok (.goto (-64), 3) := by decide +kernel
theorem dX5_measureLengths_115 : decode cX5_measureLengths 115 = .ok (.return_, 1) := by decide +kernel
theorem dX5_tellTimes_0 : decode cX5_tellTimes 0 = .ok (.aload_n 1, 1) := by decide +kernel
theorem dX5_tellTimes_1 : decode cX5_tellTimes 1 = .ok (.getfield 50, 3) := by decide +kernel
theorem dX5_tellTimes_4 : decode cX5_tellTimes 4 = .ok (.astore_n 2, 1) := by decide +kernel
theorem dX5_tellTimes_5 : decode cX5_tellTimes 5 = .ok (.aload_n 1, 1) := by decide +kernel
theorem dX5_tellTimes_6 : decode cX5_tellTimes 6 = .ok (.getfield 58, 3) := by decide +kernel
theorem dX5_tellTimes_9 : decode cX5_tellTimes 9 = .ok (.astore_n 3, 1) := by decide +kernel
theorem dX5_tellTimes_10 : decode cX5_tellTimes 10 = .ok (.aload_n 2, 1) := by decide +kernel
theorem dX5_tellTimes_11 : decode cX5_tellTimes 11 = .ok (.ifnonnull 4, 3) := by decide +kernel
theorem dX5_tellTimes_14 : decode cX5_tellTimes 14 = .ok (.return_, 1) := by decide +kernel
theorem dX5_tellTimes_15 : decode cX5_tellTimes 15 = .ok (.aload_n 1, 1) := by decide +kernel
theorem dX5_tellTimes_16 : decode cX5_tellTimes 16 = .ok (.aload_n 2, 1) := by decide +kernel
theorem dX5_tellTimes_17 : decode cX5_tellTimes 17 = .ok (.getfield 89, 3) := by decide +kernel
theorem dX5_tellTimes_20 : decode cX5_tellTimes 20 = .ok (.iconst 1, 1) := by decide +kernel
theorem dX5_tellTimes_21 : decode cX5_tellTimes 21 = .ok (.iadd, 1) := by decide +kernel
theorem dX5_tellTimes_22 : decode cX5_tellTimes 22 = .ok (.putfield 89, 3) := by decide +kernel
theorem dX5_tellTimes_25 : decode cX5_tellTimes 25 = .ok (.aload_n 1, 1) := by decide +kernel
theorem dX5_tellTimes_26 : decode cX5_tellTimes 26 = .ok (.aload_n 3, 1) := by decide +kernel
theorem dX5_tellTimes_27 : decode cX5_tellTimes 27 = .ok (.ifnonnull 7, 3) := by decide +kernel
theorem dX5_tellTimes_30 : decode cX5_tellTimes 30 = .ok (.iconst 0, 1) := by decide +kernel
theorem dX5_tellTimes_31 : decode cX5_tellTimes 31 = .ok (.goto 9, 3) := by decide +kernel
theorem dX5_tellTimes_34 : decode cX5_tellTimes 34 = .ok (.aload_n 3, 1) := by decide +kernel
theorem dX5_tellTimes_35 : decode cX5_tellTimes 35 = .ok (.getfield 92, 3) := by decide +kernel
theorem dX5_tellTimes_38 : decode cX5_tellTimes 38 = .ok (.iconst 1, 1) := by decide +kernel
theorem dX5_tellTimes_39 : decode cX5_tellTimes 39 = .ok (.iadd, 1) := by decide +kernel
theorem dX5_tellTimes_40 : decode cX5_tellTimes 40 = .ok (.putfield 92, 3) := by decide +kernel
theorem dX5_tellTimes_43 : decode cX5_tellTimes 43 = .ok (.aload_n 1, 1) := by decide +kernel
theorem dX5_tellTimes_44 : decode cX5_tellTimes 44 = .ok (.aload_n 3, 1) := by decide +kernel
theorem dX5_tellTimes_45 : decode cX5_tellTimes 45 = .ok (.ifnonnull 10, 3) := by decide +kernel
theorem dX5_tellTimes_48 : decode cX5_tellTimes 48 = .ok (.aload_n 2, 1) := by decide +kernel
theorem dX5_tellTimes_49 : decode cX5_tellTimes 49 = .ok (.getfield 95, 3) := by decide +kernel
theorem dX5_tellTimes_52 : decode cX5_tellTimes 52 = .ok (.goto 12, 3) := by decide +kernel
theorem dX5_tellTimes_55 : decode cX5_tellTimes 55 = .ok (.aload_n 3, 1) := by decide +kernel
theorem dX5_tellTimes_56 : decode cX5_tellTimes 56 = .ok (.getfield 95, 3) := by decide +kernel
theorem dX5_tellTimes_59 : decode cX5_tellTimes 59 = .ok (.aload_n 3, 1) := by decide +kernel
theorem dX5_tellTimes_60 : decode cX5_tellTimes 60 = .ok (.getfield 82, 3) := by decide +kernel
theorem dX5_tellTimes_63 : decode cX5_tellTimes 63 = .ok (.iadd, 1) := by decide +kernel
theorem dX5_tellTimes_64 : decode cX5_tellTimes 64 = .ok (.putfield 95, 3) := by decide +kernel
theorem dX5_tellTimes_67 : decode cX5_tellTimes 67 = .ok (.aload_n 1, 1) := by decide +kernel
theorem dX5_tellTimes_68 : decode cX5_tellTimes 68 = .ok (.aload_n 2, 1) := by decide +kernel
theorem dX5_tellTimes_69 : decode cX5_tellTimes 69 = .ok (.getfield 82, 3) := by decide +kernel
theorem dX5_tellTimes_72 : decode cX5_tellTimes 72 = .ok (.aload_n 2, 1) := by decide +kernel
theorem dX5_tellTimes_73 : decode cX5_tellTimes 73 = .ok (.aload_n 1, 1) := by decide +kernel
theorem dX5_tellTimes_74 : decode cX5_tellTimes 74 = .ok (.getfield 61, 3) := by decide +kernel
theorem dX5_tellTimes_77 : decode cX5_tellTimes 77 = .ok (.invokevirtual 98, 3) := by decide +kernel
theorem dX5_tellTimes_80 : decode cX5_tellTimes 80 = .ok (.isub, 1) := by decide +kernel
theorem dX5_tellTimes_81 : decode cX5_tellTimes 81 = .ok (.putfield 101, 3) := by decide +kernel
theorem dX5_tellTimes_84 : decode cX5_tellTimes 84 = .ok (.aload_n 1, 1) := by decide +kernel
theorem dX5_tellTimes_85 : decode cX5_tellTimes 85 = .ok (.aload_n 1, 1) := by decide +kernel
theorem dX5_tellTimes_86 : decode cX5_tellTimes 86 = .ok (.getfield 101, 3) := by decide +kernel
theorem dX5_tellTimes_89 : decode cX5_tellTimes 89 = .ok (.aload_n 2, 1) := by decide +kernel
theorem dX5_tellTimes_90 : decode cX5_tellTimes 90 = .ok (.getfield 104, 3) := by decide +kernel
theorem dX5_tellTimes_93 : decode cX5_tellTimes 93 = .ok (.iadd, 1) := by decide +kernel
theorem dX5_tellTimes_94 : decode cX5_tellTimes 94 = .ok (.putfield 104, 3) := by decide +kernel
theorem dX5_tellTimes_97 : decode cX5_tellTimes 97 = .ok (.return_, 1) := by decide +kernel
theorem dX5_refusal_0 : decode cX5_refusal 0 = .ok (.aload_n 1, 1) := by decide +kernel
theorem dX5_refusal_1 : decode cX5_refusal 1 = .ok (.getstatic 107, 3) := by decide +kernel
theorem dX5_refusal_4 : decode cX5_refusal 4 = .ok (.if_acmp .ne 24, 3) := by decide +kernel
theorem dX5_refusal_7 : decode cX5_refusal 7 = .ok (.iload_n 2, 1) := by decide +kernel
theorem dX5_refusal_8 : decode cX5_refusal 8 = .ok (.iconst 0, 1) := by decide +kernel
theorem dX5_refusal_9 : decode cX5_refusal 9 = .ok (.sipush 999, 3) := by decide +kernel
theorem dX5_refusal_12 : decode cX5_refusal 12 = .ok (.invokestatic 113, 3) := by decide +kernel
theorem dX5_refusal_15 : decode cX5_refusal 15 = .ok (.ifCond .eq 9, 3) := by decide +kernel
theorem dX5_refusal_18 : decode cX5_refusal 18 = .ok (.getstatic 117, 3) := by decide +kernel
theorem dX5_refusal_21 : decode cX5_refusal 21 = .ok (.goto 6, 3) := by decide +kernel
theorem dX5_refusal_24 : decode cX5_refusal 24 = .ok (.getstatic 123, 3) := by decide +kernel
theorem dX5_refusal_27 : decode cX5_refusal 27 = .ok (.areturn, 1) := by decide +kernel
theorem dX5_refusal_28 : decode cX5_refusal 28 = .ok (.aload_n 0, 1) := by decide +kernel
theorem dX5_refusal_29 : decode cX5_refusal 29 = .ok (.iload_n 2, 1) := by decide +kernel
theorem dX5_refusal_30 : decode cX5_refusal 30 = .ok (.invokevirtual 126, 3) := by decide +kernel
theorem dX5_refusal_33 : decode cX5_refusal 33 = .ok (.astore 5, 2) := by decide +kernel
theorem dX5_refusal_35 : decode cX5_refusal 35 = .ok (.aload 5, 2) := by decide +kernel
theorem dX5_refusal_37 : decode cX5_refusal 37 = .ok (.ifnull 18, 3) := by decide +kernel
theorem dX5_refusal_40 : decode cX5_refusal 40 = .ok (.aload_n 1, 1) := by decide +kernel
theorem dX5_refusal_41 : decode cX5_refusal 41 = .ok (.getstatic 129, 3) := by decide +kernel
theorem dX5_refusal_44 : decode cX5_refusal 44 = .ok (.if_acmp .ne 15, 3) := by decide +kernel
theorem dX5_refusal_47 : decode cX5_refusal 47 = .ok (.aload_n 0, 1) := by decide +kernel
theorem dX5_refusal_48 : decode cX5_refusal 48 = .ok (.iload_n 3, 1) := by decide +kernel
theorem dX5_refusal_49 : decode cX5_refusal 49 = .ok (.invokevirtual 126, 3) := by decide +kernel
theorem dX5_refusal_52 : decode cX5_refusal 52 = .ok (.ifnonnull 7, 3) := by decide +kernel
theorem dX5_refusal_55 : decode cX5_refusal 55 = .ok (.getstatic 132, 3) := by decide +kernel
theorem dX5_refusal_58 : decode cX5_refusal 58 = .ok (.areturn, 1) := by decide +kernel
theorem dX5_refusal_59 : decode cX5_refusal 59 = .ok (.aload_n 1, 1) := by decide +kernel
theorem dX5_refusal_60 : decode cX5_refusal 60 = .ok (.iload_n 3, 1) := by decide +kernel
theorem dX5_refusal_61 : decode cX5_refusal 61 = .ok (.iload 4, 2) := by decide +kernel
theorem dX5_refusal_63 : decode cX5_refusal 63 = .ok (.invokestatic 135, 3) := by decide +kernel
theorem dX5_refusal_66 : decode cX5_refusal 66 = .ok (.ifCond .ne 7, 3) := by decide +kernel
theorem dX5_refusal_69 : decode cX5_refusal 69 = .ok (.getstatic 123, 3) := by decide +kernel
theorem dX5_refusal_72 : decode cX5_refusal 72 = .ok (.areturn, 1) := by decide +kernel
theorem dX5_refusal_73 : decode cX5_refusal 73 = .ok (.aload_n 0, 1) := by decide +kernel
theorem dX5_refusal_74 : decode cX5_refusal 74 = .ok (.aload_n 1, 1) := by decide +kernel
theorem dX5_refusal_75 : decode cX5_refusal 75 = .ok (.aload 5, 2) := by decide +kernel
theorem dX5_refusal_77 : decode cX5_refusal 77 = .ok (.iload_n 3, 1) := by decide +kernel
theorem dX5_refusal_78 : decode cX5_refusal 78 = .ok (.invokevirtual 139, 3) := by decide +kernel
theorem dX5_refusal_81 : decode cX5_refusal 81 = .ok (.ifCond .eq 9, 3) := by decide +kernel
theorem dX5_refusal_84 : decode cX5_refusal 84 = .ok (.getstatic 117, 3) := by decide +kernel
theorem dX5_refusal_87 : decode cX5_refusal 87 = .ok (.goto 6, 3) := by decide +kernel
theorem dX5_refusal_90 : decode cX5_refusal 90 = .ok (.getstatic 143, 3) := by decide +kernel
theorem dX5_refusal_93 : decode cX5_refusal 93 = .ok (.areturn, 1) := by decide +kernel
theorem dX5_areInRange_0 : decode cX5_areInRange 0 = .ok (.getstatic 146, 3) := by decide +kernel
theorem dX5_areInRange_3 : decode cX5_areInRange 3 = .ok (.aload_n 0, 1) := by decide +kernel
theorem dX5_areInRange_4 : decode cX5_areInRange 4 = .ok (.invokevirtual 151, 3) := by decide +kernel
theorem dX5_areInRange_7 : decode cX5_areInRange 7 = .ok (.iaload, 1) := by decide +kernel
theorem dX5_areInRange_8 : decode cX5_areInRange 8 = .ok (.tableswitch 95 1 6 #[40, 47, 72, 79, 87, 87], 40) := by decide +kernel
theorem dX5_areInRange_48 : decode cX5_areInRange 48 = .ok (.iload_n 1, 1) := by decide +kernel
theorem dX5_areInRange_49 : decode cX5_areInRange 49 = .ok (.iconst 0, 1) := by decide +kernel
theorem dX5_areInRange_50 : decode cX5_areInRange 50 = .ok (.iconst 3, 1) := by decide +kernel
theorem dX5_areInRange_51 : decode cX5_areInRange 51 = .ok (.invokestatic 113, 3) := by decide +kernel
theorem dX5_areInRange_54 : decode cX5_areInRange 54 = .ok (.ireturn, 1) := by decide +kernel
theorem dX5_areInRange_55 : decode cX5_areInRange 55 = .ok (.iload_n 1, 1) := by decide +kernel
theorem dX5_areInRange_56 : decode cX5_areInRange 56 = .ok (.iconst 0, 1) := by decide +kernel
theorem dX5_areInRange_57 : decode cX5_areInRange 57 = .ok (.iconst 3, 1) := by decide +kernel
theorem dX5_areInRange_58 : decode cX5_areInRange 58 = .ok (.invokestatic 113, 3) := by decide +kernel
theorem dX5_areInRange_61 : decode cX5_areInRange 61 = .ok (.ifCond .eq 17, 3) := by decide +kernel
theorem dX5_areInRange_64 : decode cX5_areInRange 64 = .ok (.iload_n 2, 1) := by decide +kernel
theorem dX5_areInRange_65 : decode cX5_areInRange 65 = .ok (.iconst 0, 1) := by decide +kernel
theorem dX5_areInRange_66 : decode cX5_areInRange 66 = .ok (.bipush 60, 2) := by decide +kernel
theorem dX5_areInRange_68 : decode cX5_areInRange 68 = .ok (.invokestatic 113, 3) := by decide +kernel
theorem dX5_areInRange_71 : decode cX5_areInRange 71 = .ok (.ifCond .eq 7, 3) := by decide +kernel
theorem dX5_areInRange_74 : decode cX5_areInRange 74 = .ok (.iconst 1, 1) := by decide +kernel
theorem dX5_areInRange_75 : decode cX5_areInRange 75 = .ok (.goto 4, 3) := by decide +kernel
theorem dX5_areInRange_78 : decode cX5_areInRange 78 = .ok (.iconst 0, 1) := by decide +kernel
theorem dX5_areInRange_79 : decode cX5_areInRange 79 = .ok (.ireturn, 1) := by decide +kernel
theorem dX5_areInRange_80 : decode cX5_areInRange 80 = .ok (.iload_n 2, 1) := by decide +kernel
theorem dX5_areInRange_81 : decode cX5_areInRange 81 = .ok (.iconst 0, 1) := by decide +kernel
theorem dX5_areInRange_82 : decode cX5_areInRange 82 = .ok (.iconst 3, 1) := by decide +kernel
theorem dX5_areInRange_83 : decode cX5_areInRange 83 = .ok (.invokestatic 113, 3) := by decide +kernel
theorem dX5_areInRange_86 : decode cX5_areInRange 86 = .ok (.ireturn, 1) := by decide +kernel
theorem dX5_areInRange_87 : decode cX5_areInRange 87 = .ok (.iload_n 1, 1) := by decide +kernel
theorem dX5_areInRange_88 : decode cX5_areInRange 88 = .ok (.iconst 0, 1) := by decide +kernel
theorem dX5_areInRange_89 : decode cX5_areInRange 89 = .ok (.bipush 60, 2) := by decide +kernel
theorem dX5_areInRange_91 : decode cX5_areInRange 91 = .ok (.invokestatic 113, 3) := by decide +kernel
theorem dX5_areInRange_94 : decode cX5_areInRange 94 = .ok (.ireturn, 1) := by decide +kernel
theorem dX5_areInRange_95 : decode cX5_areInRange 95 = .ok (.iload_n 1, 1) := by decide +kernel
theorem dX5_areInRange_96 : decode cX5_areInRange 96 = .ok (.iconst 1, 1) := by decide +kernel
theorem dX5_areInRange_97 : decode cX5_areInRange 97 = .ok (.bipush 99, 2) := by decide +kernel
theorem dX5_areInRange_99 : decode cX5_areInRange 99 = .ok (.invokestatic 113, 3) := by decide +kernel
theorem dX5_areInRange_102 : decode cX5_areInRange 102 = .ok (.ireturn, 1) := by decide +kernel
theorem dX5_areInRange_103 : decode cX5_areInRange 103 = .ok (.iconst 1, 1) := by decide +kernel
theorem dX5_areInRange_104 : decode cX5_areInRange 104 = .ok (.ireturn, 1) := by decide +kernel
theorem dX5_isPossible_0 : decode cX5_isPossible 0 = .ok (.getstatic 146, 3) := by decide +kernel
theorem dX5_isPossible_3 : decode cX5_isPossible 3 = .ok (.aload_n 1, 1) := by decide +kernel
theorem dX5_isPossible_4 : decode cX5_isPossible 4 = .ok (.invokevirtual 151, 3) := by decide +kernel
theorem dX5_isPossible_7 : decode cX5_isPossible 7 = .ok (.iaload, 1) := by decide +kernel
theorem dX5_isPossible_8 : decode cX5_isPossible 8 = .ok (.tableswitch 131 1 7 #[44, 44, 66, 131, 89, 110, 76], 44) := by decide +kernel
theorem dX5_isPossible_52 : decode cX5_isPossible 52 = .ok (.aload_n 2, 1) := by decide +kernel
theorem dX5_isPossible_53 : decode cX5_isPossible 53 = .ok (.getfield 68, 3) := by decide +kernel
theorem dX5_isPossible_56 : decode cX5_isPossible 56 = .ok (.ifCond .ne 16, 3) := by decide +kernel
theorem dX5_isPossible_59 : decode cX5_isPossible 59 = .ok (.aload_n 0, 1) := by decide +kernel
theorem dX5_isPossible_60 : decode cX5_isPossible 60 = .ok (.getfield 20, 3) := by decide +kernel
theorem dX5_isPossible_63 : decode cX5_isPossible 63 = .ok (.bipush 24, 2) := by decide +kernel
theorem dX5_isPossible_65 : decode cX5_isPossible 65 = .ok (.if_icmp .ge 7, 3) := by decide +kernel
theorem dX5_isPossible_68 : decode cX5_isPossible 68 = .ok (.iconst 1, 1) := by decide +kernel
theorem dX5_isPossible_69 : decode cX5_isPossible 69 = .ok (.goto 4, 3) := by decide +kernel
theorem dX5_isPossible_72 : decode cX5_isPossible 72 = .ok (.iconst 0, 1) := by decide +kernel
theorem dX5_isPossible_73 : decode cX5_isPossible 73 = .ok (.ireturn, 1) := by decide +kernel
theorem dX5_isPossible_74 : decode cX5_isPossible 74 = .ok (.aload_n 2, 1) := by decide +kernel
theorem dX5_isPossible_75 : decode cX5_isPossible 75 = .ok (.aload_n 0, 1) := by decide +kernel
theorem dX5_isPossible_76 : decode cX5_isPossible 76 = .ok (.iload_n 3, 1) := by decide +kernel
theorem dX5_isPossible_77 : decode cX5_isPossible 77 = .ok (.invokevirtual 126, 3) := by decide +kernel
theorem dX5_isPossible_80 : decode cX5_isPossible 80 = .ok (.invokestatic 155, 3) := by decide +kernel
theorem dX5_isPossible_83 : decode cX5_isPossible 83 = .ok (.ireturn, 1) := by decide +kernel
theorem dX5_isPossible_84 : decode cX5_isPossible 84 = .ok (.aload_n 2, 1) := by decide +kernel
theorem dX5_isPossible_85 : decode cX5_isPossible 85 = .ok (.getfield 35, 3) := by decide +kernel
theorem dX5_isPossible_88 : decode cX5_isPossible 88 = .ok (.ifCond .eq 7, 3) := by decide +kernel
theorem dX5_isPossible_91 : decode cX5_isPossible 91 = .ok (.iconst 1, 1) := by decide +kernel
theorem dX5_isPossible_92 : decode cX5_isPossible 92 = .ok (.goto 4, 3) := by decide +kernel
theorem dX5_isPossible_95 : decode cX5_isPossible 95 = .ok (.iconst 0, 1) := by decide +kernel
theorem dX5_isPossible_96 : decode cX5_isPossible 96 = .ok (.ireturn, 1) := by decide +kernel
theorem dX5_isPossible_97 : decode cX5_isPossible 97 = .ok (.aload_n 2, 1) := by decide +kernel
theorem dX5_isPossible_98 : decode cX5_isPossible 98 = .ok (.getfield 68, 3) := by decide +kernel
theorem dX5_isPossible_101 : decode cX5_isPossible 101 = .ok (.ifCond .eq 15, 3) := by decide +kernel
theorem dX5_isPossible_104 : decode cX5_isPossible 104 = .ok (.aload_n 2, 1) := by decide +kernel
theorem dX5_isPossible_105 : decode cX5_isPossible 105 = .ok (.getfield 104, 3) := by decide +kernel
theorem dX5_isPossible_108 : decode cX5_isPossible 108 = .ok (.iload_n 3, 1) := by decide +kernel
theorem dX5_isPossible_109 : decode cX5_isPossible 109 = .ok (.if_icmp .lt 7, 3) := by decide +kernel
theorem dX5_isPossible_112 : decode cX5_isPossible 112 = .ok (.iconst 1, 1) := by decide +kernel
theorem dX5_isPossible_113 : decode cX5_isPossible 113 = .ok (.goto 4, 3) := by decide +kernel
theorem dX5_isPossible_116 : decode cX5_isPossible 116 = .ok (.iconst 0, 1) := by decide +kernel
theorem dX5_isPossible_117 : decode cX5_isPossible 117 = .ok (.ireturn, 1) := by decide +kernel
theorem dX5_isPossible_118 : decode cX5_isPossible 118 = .ok (.aload_n 2, 1) := by decide +kernel
theorem dX5_isPossible_119 : decode cX5_isPossible 119 = .ok (.getfield 68, 3) := by decide +kernel
theorem dX5_isPossible_122 : decode cX5_isPossible 122 = .ok (.ifCond .eq 15, 3) := by decide +kernel
theorem dX5_isPossible_125 : decode cX5_isPossible 125 = .ok (.aload_n 2, 1) := by decide +kernel
theorem dX5_isPossible_126 : decode cX5_isPossible 126 = .ok (.getfield 75, 3) := by decide +kernel
theorem dX5_isPossible_129 : decode cX5_isPossible 129 = .ok (.iload_n 3, 1) := by decide +kernel
theorem dX5_isPossible_130 : decode cX5_isPossible 130 = .ok (.if_icmp .lt 7, 3) := by decide +kernel
theorem dX5_isPossible_133 : decode cX5_isPossible 133 = .ok (.iconst 1, 1) := by decide +kernel
theorem dX5_isPossible_134 : decode cX5_isPossible 134 = .ok (.goto 4, 3) := by decide +kernel
theorem dX5_isPossible_137 : decode cX5_isPossible 137 = .ok (.iconst 0, 1) := by decide +kernel
theorem dX5_isPossible_138 : decode cX5_isPossible 138 = .ok (.ireturn, 1) := by decide +kernel
theorem dX5_isPossible_139 : decode cX5_isPossible 139 = .ok (.aload_n 2, 1) := by decide +kernel
theorem dX5_isPossible_140 : decode cX5_isPossible 140 = .ok (.getfield 68, 3) := by decide +kernel
theorem dX5_isPossible_143 : decode cX5_isPossible 143 = .ok (.ireturn, 1) := by decide +kernel
theorem dX5_canMoveTo_0 : decode cX5_canMoveTo 0 = .ok (.aload_n 1, 1) := by decide +kernel
theorem dX5_canMoveTo_1 : decode cX5_canMoveTo 1 = .ok (.ifnull 15, 3) := by decide +kernel
theorem dX5_canMoveTo_4 : decode cX5_canMoveTo 4 = .ok (.aload_n 0, 1) := by decide +kernel
theorem dX5_canMoveTo_5 : decode cX5_canMoveTo 5 = .ok (.aload_n 1, 1) := by decide +kernel
theorem dX5_canMoveTo_6 : decode cX5_canMoveTo 6 = .ok (.invokevirtual 159, 3) := by decide +kernel
theorem dX5_canMoveTo_9 : decode cX5_canMoveTo 9 = .ok (.ifCond .ne 7, 3) := by decide +kernel
theorem dX5_canMoveTo_12 : decode cX5_canMoveTo 12 = .ok (.iconst 1, 1) := by decide +kernel
theorem dX5_canMoveTo_13 : decode cX5_canMoveTo 13 = .ok (.goto 4, 3) := by decide +kernel
theorem dX5_canMoveTo_16 : decode cX5_canMoveTo 16 = .ok (.iconst 0, 1) := by decide +kernel
theorem dX5_canMoveTo_17 : decode cX5_canMoveTo 17 = .ok (.ireturn, 1) := by decide +kernel
theorem dX5_carryOut_0 : decode cX5_carryOut 0 = .ok (.aload_n 1, 1) := by decide +kernel
theorem dX5_carryOut_1 : decode cX5_carryOut 1 = .ok (.getstatic 107, 3) := by decide +kernel
theorem dX5_carryOut_4 : decode cX5_carryOut 4 = .ok (.if_acmp .ne 13, 3) := by decide +kernel
theorem dX5_carryOut_7 : decode cX5_carryOut 7 = .ok (.aload_n 0, 1) := by decide +kernel
theorem dX5_carryOut_8 : decode cX5_carryOut 8 = .ok (.iload_n 2, 1) := by decide +kernel
theorem dX5_carryOut_9 : decode cX5_carryOut 9 = .ok (.putfield 27, 3) := by decide +kernel
theorem dX5_carryOut_12 : decode cX5_carryOut 12 = .ok (.aload_n 0, 1) := by decide +kernel
theorem dX5_carryOut_13 : decode cX5_carryOut 13 = .ok (.invokevirtual 163, 3) := by decide +kernel
theorem dX5_carryOut_16 : decode cX5_carryOut 16 = .ok (.ireturn, 1) := by decide +kernel
theorem dX5_carryOut_17 : decode cX5_carryOut 17 = .ok (.aload_n 0, 1) := by decide +kernel
theorem dX5_carryOut_18 : decode cX5_carryOut 18 = .ok (.iload_n 2, 1) := by decide +kernel
theorem dX5_carryOut_19 : decode cX5_carryOut 19 = .ok (.invokevirtual 126, 3) := by decide +kernel
theorem dX5_carryOut_22 : decode cX5_carryOut 22 = .ok (.astore 5, 2) := by decide +kernel
theorem dX5_carryOut_24 : decode cX5_carryOut 24 = .ok (.aload 5, 2) := by decide +kernel
theorem dX5_carryOut_26 : decode cX5_carryOut 26 = .ok (.ifnonnull 5, 3) := by decide +kernel
theorem dX5_carryOut_29 : decode cX5_carryOut 29 = .ok (.iconst (-1), 1) := by decide +kernel
theorem dX5_carryOut_30 : decode cX5_carryOut 30 = .ok (.ireturn, 1) := by decide +kernel
theorem dX5_carryOut_31 : decode cX5_carryOut 31 = .ok (.getstatic 146, 3) := by decide +kernel
theorem dX5_carryOut_34 : decode cX5_carryOut 34 = .ok (.aload_n 1, 1) := by decide +kernel
theorem dX5_carryOut_35 : decode cX5_carryOut 35 = .ok (.invokevirtual 151, 3) := by decide +kernel
theorem dX5_carryOut_38 : decode cX5_carryOut 38 = .ok (.iaload, 1) := by decide +kernel
theorem dX5_carryOut_39 : decode cX5_carryOut 39 = .ok (.tableswitch 95 1 7 #[41, 51, 62, 79, 87, 95, 72], 41) := by decide +kernel
theorem dX5_carryOut_80 : decode cX5_carryOut 80 = .ok (.aload_n 0, 1) := by decide +kernel
theorem dX5_carryOut_81 : decode cX5_carryOut 81 = .ok (.aload 5, 2) := by decide +kernel
theorem dX5_carryOut_83 : decode cX5_carryOut 83 = .ok (.iload_n 3, 1) := by decide +kernel
theorem dX5_carryOut_84 : decode cX5_carryOut 84 = .ok (.iconst 0, 1) := by decide +kernel
theorem dX5_carryOut_85 : decode cX5_carryOut 85 = .ok (.iconst 0, 1) := by decide +kernel
theorem dX5_carryOut_86 : decode cX5_carryOut 86 = .ok (.invokevirtual 166, 3) := by decide +kernel
theorem dX5_carryOut_89 : decode cX5_carryOut 89 = .ok (.ireturn, 1) := by decide +kernel
theorem dX5_carryOut_90 : decode cX5_carryOut 90 = .ok (.aload_n 0, 1) := by decide +kernel
theorem dX5_carryOut_91 : decode cX5_carryOut 91 = .ok (.aload 5, 2) := by decide +kernel
theorem dX5_carryOut_93 : decode cX5_carryOut 93 = .ok (.iload_n 3, 1) := by decide +kernel
theorem dX5_carryOut_94 : decode cX5_carryOut 94 = .ok (.iconst 1, 1) := by decide +kernel
theorem dX5_carryOut_95 : decode cX5_carryOut 95 = .ok (.iload 4, 2) := by decide +kernel
theorem dX5_carryOut_97 : decode cX5_carryOut 97 = .ok (.invokevirtual 166, 3) := by decide +kernel
theorem dX5_carryOut_100 : decode cX5_carryOut 100 = .ok (.ireturn, 1) := by decide +kernel
theorem dX5_carryOut_101 : decode cX5_carryOut 101 = .ok (.aload_n 0, 1) := by decide +kernel
theorem dX5_carryOut_102 : decode cX5_carryOut 102 = .ok (.aload 5, 2) := by decide +kernel
theorem dX5_carryOut_104 : decode cX5_carryOut 104 = .ok (.iload_n 3, 1) := by decide +kernel
theorem dX5_carryOut_105 : decode cX5_carryOut 105 = .ok (.iload 4, 2) := by decide +kernel
theorem dX5_carryOut_107 : decode cX5_carryOut 107 = .ok (.invokevirtual 170, 3) := by decide +kernel
theorem dX5_carryOut_110 : decode cX5_carryOut 110 = .ok (.ireturn, 1) := by decide +kernel
theorem dX5_carryOut_111 : decode cX5_carryOut 111 = .ok (.aload_n 0, 1) := by decide +kernel
theorem dX5_carryOut_112 : decode cX5_carryOut 112 = .ok (.aload 5, 2) := by decide +kernel
theorem dX5_carryOut_114 : decode cX5_carryOut 114 = .ok (.invokevirtual 174, 3) := by decide +kernel
theorem dX5_carryOut_117 : decode cX5_carryOut 117 = .ok (.ireturn, 1) := by decide +kernel
theorem dX5_carryOut_118 : decode cX5_carryOut 118 = .ok (.aload_n 0, 1) := by decide +kernel
theorem dX5_carryOut_119 : decode cX5_carryOut 119 = .ok (.aload 5, 2) := by decide +kernel
theorem dX5_carryOut_121 : decode cX5_carryOut 121 = .ok (.iload_n 3, 1) := by decide +kernel
theorem dX5_carryOut_122 : decode cX5_carryOut 122 = .ok (.invokevirtual 177, 3) := by decide +kernel
theorem dX5_carryOut_125 : decode cX5_carryOut 125 = .ok (.ireturn, 1) := by decide +kernel
theorem dX5_carryOut_126 : decode cX5_carryOut 126 = .ok (.aload_n 0, 1) := by decide +kernel
theorem dX5_carryOut_127 : decode cX5_carryOut 127 = .ok (.aload 5, 2) := by decide +kernel
theorem dX5_carryOut_129 : decode cX5_carryOut 129 = .ok (.iload_n 3, 1) := by decide +kernel
theorem dX5_carryOut_130 : decode cX5_carryOut 130 = .ok (.invokevirtual 181, 3) := by decide +kernel
theorem dX5_carryOut_133 : decode cX5_carryOut 133 = .ok (.ireturn, 1) := by decide +kernel
theorem dX5_carryOut_134 : decode cX5_carryOut 134 = .ok (.aload_n 0, 1) := by decide +kernel
theorem dX5_carryOut_135 : decode cX5_carryOut 135 = .ok (.aload 5, 2) := by decide +kernel
theorem dX5_carryOut_137 : decode cX5_carryOut 137 = .ok (.iload_n 3, 1) := by decide +kernel
theorem dX5_carryOut_138 : decode cX5_carryOut 138 = .ok (.ineg, 1) := by decide +kernel
theorem dX5_carryOut_139 : decode cX5_carryOut 139 = .ok (.invokevirtual 181, 3) := by decide +kernel
theorem dX5_carryOut_142 : decode cX5_carryOut 142 = .ok (.ireturn, 1) := by decide +kernel
theorem dX5_addNode_0 : decode cX5_addNode 0 = .ok (.aload_n 0, 1) := by decide +kernel
theorem dX5_addNode_1 : decode cX5_addNode 1 = .ok (.getfield 20, 3) := by decide +kernel
theorem dX5_addNode_4 : decode cX5_addNode 4 = .ok (.bipush 24, 2) := by decide +kernel
theorem dX5_addNode_6 : decode cX5_addNode 6 = .ok (.if_icmp .lt 5, 3) := by decide +kernel
theorem dX5_addNode_9 : decode cX5_addNode 9 = .ok (.iconst (-1), 1) := by decide +kernel
theorem dX5_addNode_10 : decode cX5_addNode 10 = .ok (.ireturn, 1) := by decide +kernel
theorem dX5_addNode_11 : decode cX5_addNode 11 = .ok (.aload_n 0, 1) := by decide +kernel
theorem dX5_addNode_12 : decode cX5_addNode 12 = .ok (.getfield 11, 3) := by decide +kernel
theorem dX5_addNode_15 : decode cX5_addNode 15 = .ok (.aload_n 0, 1) := by decide +kernel
theorem dX5_addNode_16 : decode cX5_addNode 16 = .ok (.getfield 20, 3) := by decide +kernel
theorem dX5_addNode_19 : decode cX5_addNode 19 = .ok (.aaload, 1) := by decide +kernel
theorem dX5_addNode_20 : decode cX5_addNode 20 = .ok (.astore 5, 2) := by decide +kernel
theorem dX5_addNode_22 : decode cX5_addNode 22 = .ok (.aload 5, 2) := by decide +kernel
theorem dX5_addNode_24 : decode cX5_addNode 24 = .ok (.aload_n 0, 1) := by decide +kernel
theorem dX5_addNode_25 : decode cX5_addNode 25 = .ok (.getfield 24, 3) := by decide +kernel
theorem dX5_addNode_28 : decode cX5_addNode 28 = .ok (.putfield 35, 3) := by decide +kernel
theorem dX5_addNode_31 : decode cX5_addNode 31 = .ok (.aload 5, 2) := by decide +kernel
theorem dX5_addNode_33 : decode cX5_addNode 33 = .ok (.iload_n 3, 1) := by decide +kernel
theorem dX5_addNode_34 : decode cX5_addNode 34 = .ok (.putfield 68, 3) := by decide +kernel
theorem dX5_addNode_37 : decode cX5_addNode 37 = .ok (.aload 5, 2) := by decide +kernel
theorem dX5_addNode_39 : decode cX5_addNode 39 = .ok (.aload_n 1, 1) := by decide +kernel
theorem dX5_addNode_40 : decode cX5_addNode 40 = .ok (.getfield 35, 3) := by decide +kernel
theorem dX5_addNode_43 : decode cX5_addNode 43 = .ok (.putfield 47, 3) := by decide +kernel
theorem dX5_addNode_46 : decode cX5_addNode 46 = .ok (.aload 5, 2) := by decide +kernel
theorem dX5_addNode_48 : decode cX5_addNode 48 = .ok (.iload_n 2, 1) := by decide +kernel
theorem dX5_addNode_49 : decode cX5_addNode 49 = .ok (.putfield 61, 3) := by decide +kernel
theorem dX5_addNode_52 : decode cX5_addNode 52 = .ok (.aload 5, 2) := by decide +kernel
theorem dX5_addNode_54 : decode cX5_addNode 54 = .ok (.iload 4, 2) := by decide +kernel
theorem dX5_addNode_56 : decode cX5_addNode 56 = .ok (.putfield 72, 3) := by decide +kernel
theorem dX5_addNode_59 : decode cX5_addNode 59 = .ok (.aload 5, 2) := by decide +kernel
theorem dX5_addNode_61 : decode cX5_addNode 61 = .ok (.iconst 0, 1) := by decide +kernel
theorem dX5_addNode_62 : decode cX5_addNode 62 = .ok (.putfield 75, 3) := by decide +kernel
theorem dX5_addNode_65 : decode cX5_addNode 65 = .ok (.aload_n 0, 1) := by decide +kernel
theorem dX5_addNode_66 : decode cX5_addNode 66 = .ok (.dup, 1) := by decide +kernel
theorem dX5_addNode_67 : decode cX5_addNode 67 = .ok (.getfield 20, 3) := by decide +kernel
theorem dX5_addNode_70 : decode cX5_addNode 70 = .ok (.iconst 1, 1) := by decide +kernel
theorem dX5_addNode_71 : decode cX5_addNode 71 = .ok (.iadd, 1) := by decide +kernel
theorem dX5_addNode_72 : decode cX5_addNode 72 = .ok (.putfield 20, 3) := by decide +kernel
theorem dX5_addNode_75 : decode cX5_addNode 75 = .ok (.aload_n 0, 1) := by decide +kernel
theorem dX5_addNode_76 : decode cX5_addNode 76 = .ok (.dup, 1) := by decide +kernel
theorem dX5_addNode_77 : decode cX5_addNode 77 = .ok (.getfield 24, 3) := by decide +kernel
theorem dX5_addNode_80 : decode cX5_addNode 80 = .ok (.iconst 1, 1) := by decide +kernel
theorem dX5_addNode_81 : decode cX5_addNode 81 = .ok (.iadd, 1) := by decide +kernel
theorem dX5_addNode_82 : decode cX5_addNode 82 = .ok (.putfield 24, 3) := by decide +kernel
theorem dX5_addNode_85 : decode cX5_addNode 85 = .ok (.aload_n 0, 1) := by decide +kernel
theorem dX5_addNode_86 : decode cX5_addNode 86 = .ok (.invokevirtual 184, 3) := by decide +kernel
theorem dX5_addNode_89 : decode cX5_addNode 89 = .ok (.aload 5, 2) := by decide +kernel
theorem dX5_addNode_91 : decode cX5_addNode 91 = .ok (.getfield 35, 3) := by decide +kernel
theorem dX5_addNode_94 : decode cX5_addNode 94 = .ok (.ireturn, 1) := by decide +kernel
theorem dX5_putLast_0 : decode cX5_putLast 0 = .ok (.iconst 0, 1) := by decide +kernel
theorem dX5_putLast_1 : decode cX5_putLast 1 = .ok (.istore 4, 2) := by decide +kernel
theorem dX5_putLast_3 : decode cX5_putLast 3 = .ok (.iconst 0, 1) := by decide +kernel
theorem dX5_putLast_4 : decode cX5_putLast 4 = .ok (.istore 5, 2) := by decide +kernel
theorem dX5_putLast_6 : decode cX5_putLast 6 = .ok (.iload 5, 2) := by decide +kernel
theorem dX5_putLast_8 : decode cX5_putLast 8 = .ok (.aload_n 0, 1) := by decide +kernel
theorem dX5_putLast_9 : decode cX5_putLast 9 = .ok (.getfield 20, 3) := by decide +kernel
theorem dX5_putLast_12 : decode cX5_putLast 12 = .ok (.if_icmp .ge 36, 3) := by decide +kernel
theorem dX5_putLast_15 : decode cX5_putLast 15 = .ok (.aload_n 0, 1) := by decide +kernel
theorem dX5_putLast_16 : decode cX5_putLast 16 = .ok (.getfield 11, 3) := by decide +kernel
theorem dX5_putLast_19 : decode cX5_putLast 19 = .ok (.iload 5, 2) := by decide +kernel
theorem dX5_putLast_21 : decode cX5_putLast 21 = .ok (.aaload, 1) := by decide +kernel
theorem dX5_putLast_22 : decode cX5_putLast 22 = .ok (.astore 6, 2) := by decide +kernel
theorem dX5_putLast_24 : decode cX5_putLast 24 = .ok (.aload 6, 2) := by decide +kernel
theorem dX5_putLast_26 : decode cX5_putLast 26 = .ok (.aload_n 1, 1) := by decide +kernel
theorem dX5_putLast_27 : decode cX5_putLast 27 = .ok (.if_acmp .eq 15, 3) := by decide +kernel
theorem dX5_putLast_30 : decode cX5_putLast 30 = .ok (.aload_n 0, 1) := by decide +kernel
theorem dX5_putLast_31 : decode cX5_putLast 31 = .ok (.getfield 11, 3) := by decide +kernel
theorem dX5_putLast_34 : decode cX5_putLast 34 = .ok (.iload 4, 2) := by decide +kernel
theorem dX5_putLast_36 : decode cX5_putLast 36 = .ok (.aload 6, 2) := by decide +kernel
theorem dX5_putLast_38 : decode cX5_putLast 38 = .ok (.aastore, 1) := by decide +kernel
theorem dX5_putLast_39 : decode cX5_putLast 39 = .ok (.iinc 4 1, 3) := by decide +kernel
theorem dX5_putLast_42 : decode cX5_putLast 42 = .ok (.iinc 5 1, 3) := by decide +kernel
theorem dX5_putLast_45 : decode cX5_putLast 45 = .ok (.goto (-39), 3) := by decide +kernel
theorem dX5_putLast_48 : decode cX5_putLast 48 = .ok (.aload_n 0, 1) := by decide +kernel
theorem dX5_putLast_49 : decode cX5_putLast 49 = .ok (.getfield 11, 3) := by decide +kernel
theorem dX5_putLast_52 : decode cX5_putLast 52 = .ok (.aload_n 0, 1) := by decide +kernel
theorem dX5_putLast_53 : decode cX5_putLast 53 = .ok (.getfield 20, 3) := by decide +kernel
theorem dX5_putLast_56 : decode cX5_putLast 56 = .ok (.iconst 1, 1) := by decide +kernel
theorem dX5_putLast_57 : decode cX5_putLast 57 = .ok (.isub, 1) := by decide +kernel
theorem dX5_putLast_58 : decode cX5_putLast 58 = .ok (.aload_n 1, 1) := by decide +kernel
theorem dX5_putLast_59 : decode cX5_putLast 59 = .ok (.aastore, 1) := by decide +kernel
theorem dX5_putLast_60 : decode cX5_putLast 60 = .ok (.aload_n 1, 1) := by decide +kernel
theorem dX5_putLast_61 : decode cX5_putLast 61 = .ok (.iload_n 2, 1) := by decide +kernel
theorem dX5_putLast_62 : decode cX5_putLast 62 = .ok (.putfield 47, 3) := by decide +kernel
theorem dX5_putLast_65 : decode cX5_putLast 65 = .ok (.aload_n 1, 1) := by decide +kernel
theorem dX5_putLast_66 : decode cX5_putLast 66 = .ok (.iload_n 3, 1) := by decide +kernel
theorem dX5_putLast_67 : decode cX5_putLast 67 = .ok (.putfield 61, 3) := by decide +kernel
theorem dX5_putLast_70 : decode cX5_putLast 70 = .ok (.aload_n 0, 1) := by decide +kernel
theorem dX5_putLast_71 : decode cX5_putLast 71 = .ok (.invokevirtual 184, 3) := by decide +kernel
theorem dX5_putLast_74 : decode cX5_putLast 74 = .ok (.aload_n 1, 1) := by decide +kernel
theorem dX5_putLast_75 : decode cX5_putLast 75 = .ok (.getfield 92, 3) := by decide +kernel
theorem dX5_putLast_78 : decode cX5_putLast 78 = .ok (.ireturn, 1) := by decide +kernel
theorem dX5_dropAll_0 : decode cX5_dropAll 0 = .ok (.iconst 0, 1) := by decide +kernel
theorem dX5_dropAll_1 : decode cX5_dropAll 1 = .ok (.istore_n 2, 1) := by decide +kernel
theorem dX5_dropAll_2 : decode cX5_dropAll 2 = .ok (.iconst 0, 1) := by decide +kernel
theorem dX5_dropAll_3 : decode cX5_dropAll 3 = .ok (.istore_n 3, 1) := by decide +kernel
theorem dX5_dropAll_4 : decode cX5_dropAll 4 = .ok (.iload_n 3, 1) := by decide +kernel
theorem dX5_dropAll_5 : decode cX5_dropAll 5 = .ok (.aload_n 0, 1) := by decide +kernel
theorem dX5_dropAll_6 : decode cX5_dropAll 6 = .ok (.getfield 20, 3) := by decide +kernel
theorem dX5_dropAll_9 : decode cX5_dropAll 9 = .ok (.if_icmp .ge 49, 3) := by decide +kernel
theorem dX5_dropAll_12 : decode cX5_dropAll 12 = .ok (.aload_n 0, 1) := by decide +kernel
theorem dX5_dropAll_13 : decode cX5_dropAll 13 = .ok (.getfield 11, 3) := by decide +kernel
theorem dX5_dropAll_16 : decode cX5_dropAll 16 = .ok (.iload_n 3, 1) := by decide +kernel
theorem dX5_dropAll_17 : decode cX5_dropAll 17 = .ok (.aaload, 1) := by decide +kernel
theorem dX5_dropAll_18 : decode cX5_dropAll 18 = .ok (.astore 4, 2) := by decide +kernel
theorem dX5_dropAll_20 : decode cX5_dropAll 20 = .ok (.aload 4, 2) := by decide +kernel
theorem dX5_dropAll_22 : decode cX5_dropAll 22 = .ok (.aload_n 1, 1) := by decide +kernel
theorem dX5_dropAll_23 : decode cX5_dropAll 23 = .ok (.invokevirtual 187, 3) := by decide +kernel
theorem dX5_dropAll_26 : decode cX5_dropAll 26 = .ok (.ifCond .ne 26, 3) := by decide +kernel
theorem dX5_dropAll_29 : decode cX5_dropAll 29 = .ok (.aload_n 0, 1) := by decide +kernel
theorem dX5_dropAll_30 : decode cX5_dropAll 30 = .ok (.getfield 11, 3) := by decide +kernel
theorem dX5_dropAll_33 : decode cX5_dropAll 33 = .ok (.iload_n 3, 1) := by decide +kernel
theorem dX5_dropAll_34 : decode cX5_dropAll 34 = .ok (.aload_n 0, 1) := by decide +kernel
theorem dX5_dropAll_35 : decode cX5_dropAll 35 = .ok (.getfield 11, 3) := by decide +kernel
theorem dX5_dropAll_38 : decode cX5_dropAll 38 = .ok (.iload_n 2, 1) := by decide +kernel
theorem dX5_dropAll_39 : decode cX5_dropAll 39 = .ok (.aaload, 1) := by decide +kernel
theorem dX5_dropAll_40 : decode cX5_dropAll 40 = .ok (.aastore, 1) := by decide +kernel
theorem dX5_dropAll_41 : decode cX5_dropAll 41 = .ok (.aload_n 0, 1) := by decide +kernel
theorem dX5_dropAll_42 : decode cX5_dropAll 42 = .ok (.getfield 11, 3) := by decide +kernel
theorem dX5_dropAll_45 : decode cX5_dropAll 45 = .ok (.iload_n 2, 1) := by decide +kernel
theorem dX5_dropAll_46 : decode cX5_dropAll 46 = .ok (.aload 4, 2) := by decide +kernel
theorem dX5_dropAll_48 : decode cX5_dropAll 48 = .ok (.aastore, 1) := by decide +kernel
theorem dX5_dropAll_49 : decode cX5_dropAll 49 = .ok (.iinc 2 1, 3) := by decide +kernel
theorem dX5_dropAll_52 : decode cX5_dropAll 52 = .ok (.iinc 3 1, 3) := by decide +kernel
theorem dX5_dropAll_55 : decode cX5_dropAll 55 = .ok (.goto (-51), 3) := by decide +kernel
theorem dX5_dropAll_58 : decode cX5_dropAll 58 = .ok (.aload_n 0, 1) := by decide +kernel
theorem dX5_dropAll_59 : decode cX5_dropAll 59 = .ok (.getfield 20, 3) := by decide +kernel
theorem dX5_dropAll_62 : decode cX5_dropAll 62 = .ok (.iload_n 2, 1) := by decide +kernel
theorem dX5_dropAll_63 : decode cX5_dropAll 63 = .ok (.isub, 1) := by decide +kernel
theorem dX5_dropAll_64 : decode cX5_dropAll 64 = .ok (.istore_n 3, 1) := by decide +kernel
theorem dX5_dropAll_65 : decode cX5_dropAll 65 = .ok (.aload_n 0, 1) := by decide +kernel
theorem dX5_dropAll_66 : decode cX5_dropAll 66 = .ok (.iload_n 2, 1) := by decide +kernel
theorem dX5_dropAll_67 : decode cX5_dropAll 67 = .ok (.putfield 20, 3) := by decide +kernel
theorem dX5_dropAll_70 : decode cX5_dropAll 70 = .ok (.aload_n 0, 1) := by decide +kernel
theorem dX5_dropAll_71 : decode cX5_dropAll 71 = .ok (.invokevirtual 184, 3) := by decide +kernel
theorem dX5_dropAll_74 : decode cX5_dropAll 74 = .ok (.iload_n 3, 1) := by decide +kernel
theorem dX5_dropAll_75 : decode cX5_dropAll 75 = .ok (.ireturn, 1) := by decide +kernel
theorem dX5_changeDuration_0 : decode cX5_changeDuration 0 = .ok (.aload_n 1, 1) := by decide +kernel
theorem dX5_changeDuration_1 : decode cX5_changeDuration 1 = .ok (.aload_n 1, 1) := by decide +kernel
theorem dX5_changeDuration_2 : decode cX5_changeDuration 2 = .ok (.iload_n 2, 1) := by decide +kernel
theorem dX5_changeDuration_3 : decode cX5_changeDuration 3 = .ok (.invokevirtual 191, 3) := by decide +kernel
theorem dX5_changeDuration_6 : decode cX5_changeDuration 6 = .ok (.putfield 75, 3) := by decide +kernel
theorem dX5_changeDuration_9 : decode cX5_changeDuration 9 = .ok (.aload_n 1, 1) := by decide +kernel
theorem dX5_changeDuration_10 : decode cX5_changeDuration 10 = .ok (.iload_n 2, 1) := by decide +kernel
theorem dX5_changeDuration_11 : decode cX5_changeDuration 11 = .ok (.putfield 72, 3) := by decide +kernel
theorem dX5_changeDuration_14 : decode cX5_changeDuration 14 = .ok (.aload_n 0, 1) := by decide +kernel
theorem dX5_changeDuration_15 : decode cX5_changeDuration 15 = .ok (.invokevirtual 184, 3) := by decide +kernel
theorem dX5_changeDuration_18 : decode cX5_changeDuration 18 = .ok (.aload_n 0, 1) := by decide +kernel
theorem dX5_changeDuration_19 : decode cX5_changeDuration 19 = .ok (.invokevirtual 194, 3) := by decide +kernel
theorem dX5_changeDuration_22 : decode cX5_changeDuration 22 = .ok (.ireturn, 1) := by decide +kernel
theorem dX5_changeReserve_0 : decode cX5_changeReserve 0 = .ok (.aload_n 1, 1) := by decide +kernel
theorem dX5_changeReserve_1 : decode cX5_changeReserve 1 = .ok (.dup, 1) := by decide +kernel
theorem dX5_changeReserve_2 : decode cX5_changeReserve 2 = .ok (.getfield 75, 3) := by decide +kernel
theorem dX5_changeReserve_5 : decode cX5_changeReserve 5 = .ok (.iload_n 2, 1) := by decide +kernel
theorem dX5_changeReserve_6 : decode cX5_changeReserve 6 = .ok (.iadd, 1) := by decide +kernel
theorem dX5_changeReserve_7 : decode cX5_changeReserve 7 = .ok (.putfield 75, 3) := by decide +kernel
theorem dX5_changeReserve_10 : decode cX5_changeReserve 10 = .ok (.aload_n 0, 1) := by decide +kernel
theorem dX5_changeReserve_11 : decode cX5_changeReserve 11 = .ok (.invokevirtual 184, 3) := by decide +kernel
theorem dX5_changeReserve_14 : decode cX5_changeReserve 14 = .ok (.aload_n 1, 1) := by decide +kernel
theorem dX5_changeReserve_15 : decode cX5_changeReserve 15 = .ok (.getfield 75, 3) := by decide +kernel
theorem dX5_changeReserve_18 : decode cX5_changeReserve 18 = .ok (.ireturn, 1) := by decide +kernel
theorem dX5_end_0 : decode cX5_end 0 = .ok (.aload_n 0, 1) := by decide +kernel
theorem dX5_end_1 : decode cX5_end 1 = .ok (.getfield 11, 3) := by decide +kernel
theorem dX5_end_4 : decode cX5_end 4 = .ok (.iconst 0, 1) := by decide +kernel
theorem dX5_end_5 : decode cX5_end 5 = .ok (.aaload, 1) := by decide +kernel
theorem dX5_end_6 : decode cX5_end 6 = .ok (.getfield 82, 3) := by decide +kernel
theorem dX5_end_9 : decode cX5_end 9 = .ok (.ireturn, 1) := by decide +kernel
theorem dX5_lateness_0 : decode cX5_lateness 0 = .ok (.iconst 0, 1) := by decide +kernel
theorem dX5_lateness_1 : decode cX5_lateness 1 = .ok (.aload_n 0, 1) := by decide +kernel
theorem dX5_lateness_2 : decode cX5_lateness 2 = .ok (.invokevirtual 194, 3) := by decide +kernel
theorem dX5_lateness_5 : decode cX5_lateness 5 = .ok (.aload_n 0, 1) := by decide +kernel
theorem dX5_lateness_6 : decode cX5_lateness 6 = .ok (.getfield 27, 3) := by decide +kernel
theorem dX5_lateness_9 : decode cX5_lateness 9 = .ok (.isub, 1) := by decide +kernel
theorem dX5_lateness_10 : decode cX5_lateness 10 = .ok (.invokestatic 197, 3) := by decide +kernel
theorem dX5_lateness_13 : decode cX5_lateness 13 = .ok (.ireturn, 1) := by decide +kernel
theorem dX5_value_0 : decode cX5_value 0 = .ok (.iload_n 1, 1) := by decide +kernel
theorem dX5_value_1 : decode cX5_value 1 = .ok (.tableswitch 105 0 9 #[55, 60, 65, 70, 75, 80, 85, 90, 95, 100], 55) := by decide +kernel
theorem dX5_value_56 : decode cX5_value 56 = .ok (.aload_n 0, 1) := by decide +kernel
theorem dX5_value_57 : decode cX5_value 57 = .ok (.getfield 20, 3) := by decide +kernel
theorem dX5_value_60 : decode cX5_value 60 = .ok (.ireturn, 1) := by decide +kernel
theorem dX5_value_61 : decode cX5_value 61 = .ok (.aload_n 0, 1) := by decide +kernel
theorem dX5_value_62 : decode cX5_value 62 = .ok (.invokevirtual 203, 3) := by decide +kernel
theorem dX5_value_65 : decode cX5_value 65 = .ok (.ireturn, 1) := by decide +kernel
theorem dX5_value_66 : decode cX5_value 66 = .ok (.aload_n 0, 1) := by decide +kernel
theorem dX5_value_67 : decode cX5_value 67 = .ok (.invokevirtual 194, 3) := by decide +kernel
theorem dX5_value_70 : decode cX5_value 70 = .ok (.ireturn, 1) := by decide +kernel
theorem dX5_value_71 : decode cX5_value 71 = .ok (.aload_n 0, 1) := by decide +kernel
theorem dX5_value_72 : decode cX5_value 72 = .ok (.getfield 27, 3) := by decide +kernel
theorem dX5_value_75 : decode cX5_value 75 = .ok (.ireturn, 1) := by decide +kernel
theorem dX5_value_76 : decode cX5_value 76 = .ok (.aload_n 0, 1) := by decide +kernel
theorem dX5_value_77 : decode cX5_value 77 = .ok (.invokevirtual 163, 3) := by decide +kernel
theorem dX5_value_80 : decode cX5_value 80 = .ok (.ireturn, 1) := by decide +kernel
theorem dX5_value_81 : decode cX5_value 81 = .ok (.aload_n 0, 1) := by decide +kernel
theorem dX5_value_82 : decode cX5_value 82 = .ok (.invokevirtual 206, 3) := by decide +kernel
theorem dX5_value_85 : decode cX5_value 85 = .ok (.ireturn, 1) := by decide +kernel
theorem dX5_value_86 : decode cX5_value 86 = .ok (.aload_n 0, 1) := by decide +kernel
theorem dX5_value_87 : decode cX5_value 87 = .ok (.invokevirtual 209, 3) := by decide +kernel
theorem dX5_value_90 : decode cX5_value 90 = .ok (.ireturn, 1) := by decide +kernel
theorem dX5_value_91 : decode cX5_value 91 = .ok (.aload_n 0, 1) := by decide +kernel
theorem dX5_value_92 : decode cX5_value 92 = .ok (.invokevirtual 212, 3) := by decide +kernel
theorem dX5_value_95 : decode cX5_value 95 = .ok (.ireturn, 1) := by decide +kernel
theorem dX5_value_96 : decode cX5_value 96 = .ok (.aload_n 0, 1) := by decide +kernel
theorem dX5_value_97 : decode cX5_value 97 = .ok (.invokevirtual 215, 3) := by decide +kernel
theorem dX5_value_100 : decode cX5_value 100 = .ok (.ireturn, 1) := by decide +kernel
theorem dX5_value_101 : decode cX5_value 101 = .ok (.aload_n 0, 1) := by decide +kernel
theorem dX5_value_102 : decode cX5_value 102 = .ok (.invokevirtual 218, 3) := by decide +kernel
theorem dX5_value_105 : decode cX5_value 105 = .ok (.ireturn, 1) := by decide +kernel
theorem dX5_value_106 : decode cX5_value 106 = .ok (.aload_n 0, 1) := by decide +kernel
theorem dX5_value_107 : decode cX5_value 107 = .ok (.getfield 24, 3) := by decide +kernel
theorem dX5_value_110 : decode cX5_value 110 = .ok (.ireturn, 1) := by decide +kernel
theorem dX5_countTasks_0 : decode cX5_countTasks 0 = .ok (.iconst 0, 1) := by decide +kernel
theorem dX5_countTasks_1 : decode cX5_countTasks 1 = .ok (.istore_n 1, 1) := by decide +kernel
theorem dX5_countTasks_2 : decode cX5_countTasks 2 = .ok (.iconst 0, 1) := by decide +kernel
theorem dX5_countTasks_3 : decode cX5_countTasks 3 = .ok (.istore_n 2, 1) := by decide +kernel
theorem dX5_countTasks_4 : decode cX5_countTasks 4 = .ok (.iload_n 2, 1) := by decide +kernel
theorem dX5_countTasks_5 : decode cX5_countTasks 5 = .ok (.aload_n 0, 1) := by decide +kernel
theorem dX5_countTasks_6 : decode cX5_countTasks 6 = .ok (.getfield 20, 3) := by decide +kernel
theorem dX5_countTasks_9 : decode cX5_countTasks 9 = .ok (.if_icmp .ge 29, 3) := by decide +kernel
theorem dX5_countTasks_12 : decode cX5_countTasks 12 = .ok (.iload_n 1, 1) := by decide +kernel
theorem dX5_countTasks_13 : decode cX5_countTasks 13 = .ok (.aload_n 0, 1) := by decide +kernel
theorem dX5_countTasks_14 : decode cX5_countTasks 14 = .ok (.getfield 11, 3) := by decide +kernel
theorem dX5_countTasks_17 : decode cX5_countTasks 17 = .ok (.iload_n 2, 1) := by decide +kernel
theorem dX5_countTasks_18 : decode cX5_countTasks 18 = .ok (.aaload, 1) := by decide +kernel
theorem dX5_countTasks_19 : decode cX5_countTasks 19 = .ok (.getfield 68, 3) := by decide +kernel
theorem dX5_countTasks_22 : decode cX5_countTasks 22 = .ok (.ifCond .eq 7, 3) := by decide +kernel
theorem dX5_countTasks_25 : decode cX5_countTasks 25 = .ok (.iconst 1, 1) := by decide +kernel
theorem dX5_countTasks_26 : decode cX5_countTasks 26 = .ok (.goto 4, 3) := by decide +kernel
theorem dX5_countTasks_29 : decode cX5_countTasks 29 = .ok (.iconst 0, 1) := by decide +kernel
theorem dX5_countTasks_30 : decode cX5_countTasks 30 = .ok (.iadd, 1) := by decide +kernel
theorem dX5_countTasks_31 : decode cX5_countTasks 31 = .ok (.istore_n 1, 1) := by decide +kernel
theorem dX5_countTasks_32 : decode cX5_countTasks 32 = .ok (.iinc 2 1, 3) := by decide +kernel
theorem dX5_countTasks_35 : decode cX5_countTasks 35 = .ok (.goto (-31), 3) := by decide +kernel
theorem dX5_countTasks_38 : decode cX5_countTasks 38 = .ok (.iload_n 1, 1) := by decide +kernel
theorem dX5_countTasks_39 : decode cX5_countTasks 39 = .ok (.ireturn, 1) := by decide +kernel
theorem dX5_countCriticalTasks_0 : decode cX5_countCriticalTasks 0 = .ok (.iconst 0, 1) := by decide +kernel
theorem dX5_countCriticalTasks_1 : decode cX5_countCriticalTasks 1 = .ok (.istore_n 1, 1) := by decide +kernel
theorem dX5_countCriticalTasks_2 : decode cX5_countCriticalTasks 2 = .ok (.iconst 0, 1) := by decide +kernel
theorem dX5_countCriticalTasks_3 : decode cX5_countCriticalTasks 3 = .ok (.istore_n 2, 1) := by decide +kernel
theorem dX5_countCriticalTasks_4 : decode cX5_countCriticalTasks 4 = .ok (.iload_n 2, 1) := by decide +kernel
theorem dX5_countCriticalTasks_5 : decode cX5_countCriticalTasks 5 = .ok (.aload_n 0, 1) := by decide +kernel
theorem dX5_countCriticalTasks_6 : decode cX5_countCriticalTasks 6 = .ok (.getfield 20, 3) := by decide +kernel
theorem dX5_countCriticalTasks_9 : decode cX5_countCriticalTasks 9 = .ok (.if_icmp .ge 29, 3) := by decide +kernel
theorem dX5_countCriticalTasks_12 : decode cX5_countCriticalTasks 12 = .ok (.iload_n 1, 1) := by decide +kernel
theorem dX5_countCriticalTasks_13 : decode cX5_countCriticalTasks 13 = .ok (.aload_n 0, 1) := by decide +kernel
theorem dX5_countCriticalTasks_14 : decode cX5_countCriticalTasks 14 = .ok (.getfield 11, 3) := by decide +kernel
theorem dX5_countCriticalTasks_17 : decode cX5_countCriticalTasks 17 = .ok (.iload_n 2, 1) := by decide +kernel
theorem dX5_countCriticalTasks_18 : decode cX5_countCriticalTasks 18 = .ok (.aaload, 1) := by decide +kernel
theorem dX5_countCriticalTasks_19 : decode cX5_countCriticalTasks 19 = .ok (.invokevirtual 221, 3) := by decide +kernel
theorem dX5_countCriticalTasks_22 : decode cX5_countCriticalTasks 22 = .ok (.ifCond .eq 7, 3) := by decide +kernel
theorem dX5_countCriticalTasks_25 : decode cX5_countCriticalTasks 25 = .ok (.iconst 1, 1) := by decide +kernel
theorem dX5_countCriticalTasks_26 : decode cX5_countCriticalTasks 26 = .ok (.goto 4, 3) := by decide +kernel
theorem dX5_countCriticalTasks_29 : decode cX5_countCriticalTasks 29 = .ok (.iconst 0, 1) := by decide +kernel
theorem dX5_countCriticalTasks_30 : decode cX5_countCriticalTasks 30 = .ok (.iadd, 1) := by decide +kernel
theorem dX5_countCriticalTasks_31 : decode cX5_countCriticalTasks 31 = .ok (.istore_n 1, 1) := by decide +kernel
theorem dX5_countCriticalTasks_32 : decode cX5_countCriticalTasks 32 = .ok (.iinc 2 1, 3) := by decide +kernel
theorem dX5_countCriticalTasks_35 : decode cX5_countCriticalTasks 35 = .ok (.goto (-31), 3) := by decide +kernel
theorem dX5_countCriticalTasks_38 : decode cX5_countCriticalTasks 38 = .ok (.iload_n 1, 1) := by decide +kernel
theorem dX5_countCriticalTasks_39 : decode cX5_countCriticalTasks 39 = .ok (.ireturn, 1) := by decide +kernel
theorem dX5_countCriticalRows_0 : decode cX5_countCriticalRows 0 = .ok (.iconst 0, 1) := by decide +kernel
theorem dX5_countCriticalRows_1 : decode cX5_countCriticalRows 1 = .ok (.istore_n 1, 1) := by decide +kernel
theorem dX5_countCriticalRows_2 : decode cX5_countCriticalRows 2 = .ok (.iconst 0, 1) := by decide +kernel
theorem dX5_countCriticalRows_3 : decode cX5_countCriticalRows 3 = .ok (.istore_n 2, 1) := by decide +kernel
theorem dX5_countCriticalRows_4 : decode cX5_countCriticalRows 4 = .ok (.iload_n 2, 1) := by decide +kernel
theorem dX5_countCriticalRows_5 : decode cX5_countCriticalRows 5 = .ok (.aload_n 0, 1) := by decide +kernel
theorem dX5_countCriticalRows_6 : decode cX5_countCriticalRows 6 = .ok (.getfield 20, 3) := by decide +kernel
theorem dX5_countCriticalRows_9 : decode cX5_countCriticalRows 9 = .ok (.if_icmp .ge 44, 3) := by decide +kernel
theorem dX5_countCriticalRows_12 : decode cX5_countCriticalRows 12 = .ok (.iconst 0, 1) := by decide +kernel
theorem dX5_countCriticalRows_13 : decode cX5_countCriticalRows 13 = .ok (.istore_n 3, 1) := by decide +kernel
theorem dX5_countCriticalRows_14 : decode cX5_countCriticalRows 14 = .ok (.iload_n 3, 1) := by decide +kernel
theorem dX5_countCriticalRows_15 : decode cX5_countCriticalRows 15 = .ok (.iconst 4, 1) := by decide +kernel
theorem dX5_countCriticalRows_16 : decode cX5_countCriticalRows 16 = .ok (.if_icmp .ge 31, 3) := by decide +kernel
theorem dX5_countCriticalRows_19 : decode cX5_countCriticalRows 19 = .ok (.iload_n 1, 1) := by decide +kernel
theorem dX5_countCriticalRows_20 : decode cX5_countCriticalRows 20 = .ok (.aload_n 0, 1) := by decide +kernel
theorem dX5_countCriticalRows_21 : decode cX5_countCriticalRows 21 = .ok (.aload_n 0, 1) := by decide +kernel
theorem dX5_countCriticalRows_22 : decode cX5_countCriticalRows 22 = .ok (.getfield 11, 3) := by decide +kernel
theorem dX5_countCriticalRows_25 : decode cX5_countCriticalRows 25 = .ok (.iload_n 2, 1) := by decide +kernel
theorem dX5_countCriticalRows_26 : decode cX5_countCriticalRows 26 = .ok (.aaload, 1) := by decide +kernel
theorem dX5_countCriticalRows_27 : decode cX5_countCriticalRows 27 = .ok (.iload_n 3, 1) := by decide +kernel
theorem dX5_countCriticalRows_28 : decode cX5_countCriticalRows 28 = .ok (.invokevirtual 225, 3) := by decide +kernel
theorem dX5_countCriticalRows_31 : decode cX5_countCriticalRows 31 = .ok (.ifCond .eq 7, 3) := by decide +kernel
theorem dX5_countCriticalRows_34 : decode cX5_countCriticalRows 34 = .ok (.iconst 1, 1) := by decide +kernel
theorem dX5_countCriticalRows_35 : decode cX5_countCriticalRows 35 = .ok (.goto 4, 3) := by decide +kernel
theorem dX5_countCriticalRows_38 : decode cX5_countCriticalRows 38 = .ok (.iconst 0, 1) := by decide +kernel
theorem dX5_countCriticalRows_39 : decode cX5_countCriticalRows 39 = .ok (.iadd, 1) := by decide +kernel
theorem dX5_countCriticalRows_40 : decode cX5_countCriticalRows 40 = .ok (.istore_n 1, 1) := by decide +kernel
theorem dX5_countCriticalRows_41 : decode cX5_countCriticalRows 41 = .ok (.iinc 3 1, 3) := by decide +kernel
theorem dX5_countCriticalRows_44 : decode cX5_countCriticalRows 44 = .ok (.goto (-30), 3) := by decide +kernel
theorem dX5_countCriticalRows_47 : decode cX5_countCriticalRows 47 = .ok (.iinc 2 1, 3) := by decide +kernel
theorem dX5_countCriticalRows_50 : decode cX5_countCriticalRows 50 = .ok (.goto (-46), 3) := by decide +kernel
theorem dX5_countCriticalRows_53 : decode cX5_countCriticalRows 53 = .ok (.iload_n 1, 1) := by decide +kernel
theorem dX5_countCriticalRows_54 : decode cX5_countCriticalRows 54 = .ok (.ireturn, 1) := by decide +kernel
theorem dX5_sumOfDurations_0 : decode cX5_sumOfDurations 0 = .ok (.iconst 0, 1) := by decide +kernel
theorem dX5_sumOfDurations_1 : decode cX5_sumOfDurations 1 = .ok (.istore_n 1, 1) := by decide +kernel
theorem dX5_sumOfDurations_2 : decode cX5_sumOfDurations 2 = .ok (.iconst 0, 1) := by decide +kernel
theorem dX5_sumOfDurations_3 : decode cX5_sumOfDurations 3 = .ok (.istore_n 2, 1) := by decide +kernel
theorem dX5_sumOfDurations_4 : decode cX5_sumOfDurations 4 = .ok (.iload_n 2, 1) := by decide +kernel
theorem dX5_sumOfDurations_5 : decode cX5_sumOfDurations 5 = .ok (.aload_n 0, 1) := by decide +kernel
theorem dX5_sumOfDurations_6 : decode cX5_sumOfDurations 6 = .ok (.getfield 20, 3) := by decide +kernel
theorem dX5_sumOfDurations_9 : decode cX5_sumOfDurations 9 = .ok (.if_icmp .ge 37, 3) := by decide +kernel
theorem dX5_sumOfDurations_12 : decode cX5_sumOfDurations 12 = .ok (.iload_n 1, 1) := by decide +kernel
theorem dX5_sumOfDurations_13 : decode cX5_sumOfDurations 13 = .ok (.aload_n 0, 1) := by decide +kernel
theorem dX5_sumOfDurations_14 : decode cX5_sumOfDurations 14 = .ok (.getfield 11, 3) := by decide +kernel
theorem dX5_sumOfDurations_17 : decode cX5_sumOfDurations 17 = .ok (.iload_n 2, 1) := by decide +kernel
theorem dX5_sumOfDurations_18 : decode cX5_sumOfDurations 18 = .ok (.aaload, 1) := by decide +kernel
theorem dX5_sumOfDurations_19 : decode cX5_sumOfDurations 19 = .ok (.getfield 68, 3) := by decide +kernel
theorem dX5_sumOfDurations_22 : decode cX5_sumOfDurations 22 = .ok (.ifCond .eq 15, 3) := by decide +kernel
theorem dX5_sumOfDurations_25 : decode cX5_sumOfDurations 25 = .ok (.aload_n 0, 1) := by decide +kernel
theorem dX5_sumOfDurations_26 : decode cX5_sumOfDurations 26 = .ok (.getfield 11, 3) := by decide +kernel
theorem dX5_sumOfDurations_29 : decode cX5_sumOfDurations 29 = .ok (.iload_n 2, 1) := by decide +kernel
theorem dX5_sumOfDurations_30 : decode cX5_sumOfDurations 30 = .ok (.aaload, 1) := by decide +kernel
theorem dX5_sumOfDurations_31 : decode cX5_sumOfDurations 31 = .ok (.getfield 72, 3) := by decide +kernel
theorem dX5_sumOfDurations_34 : decode cX5_sumOfDurations 34 = .ok (.goto 4, 3) := by decide +kernel
theorem dX5_sumOfDurations_37 : decode cX5_sumOfDurations 37 = .ok (.iconst 0, 1) := by decide +kernel
theorem dX5_sumOfDurations_38 : decode cX5_sumOfDurations 38 = .ok (.iadd, 1) := by decide +kernel
theorem dX5_sumOfDurations_39 : decode cX5_sumOfDurations 39 = .ok (.istore_n 1, 1) := by decide +kernel
theorem dX5_sumOfDurations_40 : decode cX5_sumOfDurations 40 = .ok (.iinc 2 1, 3) := by decide +kernel
theorem dX5_sumOfDurations_43 : decode cX5_sumOfDurations 43 = .ok (.goto (-39), 3) := by decide +kernel
theorem dX5_sumOfDurations_46 : decode cX5_sumOfDurations 46 = .ok (.iload_n 1, 1) := by decide +kernel
theorem dX5_sumOfDurations_47 : decode cX5_sumOfDurations 47 = .ok (.ireturn, 1) := by decide +kernel
theorem dX5_sumOfReserves_0 : decode cX5_sumOfReserves 0 = .ok (.iconst 0, 1) := by decide +kernel
theorem dX5_sumOfReserves_1 : decode cX5_sumOfReserves 1 = .ok (.istore_n 1, 1) := by decide +kernel
theorem dX5_sumOfReserves_2 : decode cX5_sumOfReserves 2 = .ok (.iconst 0, 1) := by decide +kernel
theorem dX5_sumOfReserves_3 : decode cX5_sumOfReserves 3 = .ok (.istore_n 2, 1) := by decide +kernel
theorem dX5_sumOfReserves_4 : decode cX5_sumOfReserves 4 = .ok (.iload_n 2, 1) := by decide +kernel
theorem dX5_sumOfReserves_5 : decode cX5_sumOfReserves 5 = .ok (.aload_n 0, 1) := by decide +kernel
theorem dX5_sumOfReserves_6 : decode cX5_sumOfReserves 6 = .ok (.getfield 20, 3) := by decide +kernel
theorem dX5_sumOfReserves_9 : decode cX5_sumOfReserves 9 = .ok (.if_icmp .ge 37, 3) := by decide +kernel
theorem dX5_sumOfReserves_12 : decode cX5_sumOfReserves 12 = .ok (.iload_n 1, 1) := by decide +kernel
theorem dX5_sumOfReserves_13 : decode cX5_sumOfReserves 13 = .ok (.aload_n 0, 1) := by decide +kernel
theorem dX5_sumOfReserves_14 : decode cX5_sumOfReserves 14 = .ok (.getfield 11, 3) := by decide +kernel
theorem dX5_sumOfReserves_17 : decode cX5_sumOfReserves 17 = .ok (.iload_n 2, 1) := by decide +kernel
theorem dX5_sumOfReserves_18 : decode cX5_sumOfReserves 18 = .ok (.aaload, 1) := by decide +kernel
theorem dX5_sumOfReserves_19 : decode cX5_sumOfReserves 19 = .ok (.getfield 68, 3) := by decide +kernel
theorem dX5_sumOfReserves_22 : decode cX5_sumOfReserves 22 = .ok (.ifCond .eq 15, 3) := by decide +kernel
theorem dX5_sumOfReserves_25 : decode cX5_sumOfReserves 25 = .ok (.aload_n 0, 1) := by decide +kernel
theorem dX5_sumOfReserves_26 : decode cX5_sumOfReserves 26 = .ok (.getfield 11, 3) := by decide +kernel
theorem dX5_sumOfReserves_29 : decode cX5_sumOfReserves 29 = .ok (.iload_n 2, 1) := by decide +kernel
theorem dX5_sumOfReserves_30 : decode cX5_sumOfReserves 30 = .ok (.aaload, 1) := by decide +kernel
theorem dX5_sumOfReserves_31 : decode cX5_sumOfReserves 31 = .ok (.getfield 75, 3) := by decide +kernel
theorem dX5_sumOfReserves_34 : decode cX5_sumOfReserves 34 = .ok (.goto 4, 3) := by decide +kernel
theorem dX5_sumOfReserves_37 : decode cX5_sumOfReserves 37 = .ok (.iconst 0, 1) := by decide +kernel
theorem dX5_sumOfReserves_38 : decode cX5_sumOfReserves 38 = .ok (.iadd, 1) := by decide +kernel
theorem dX5_sumOfReserves_39 : decode cX5_sumOfReserves 39 = .ok (.istore_n 1, 1) := by decide +kernel
theorem dX5_sumOfReserves_40 : decode cX5_sumOfReserves 40 = .ok (.iinc 2 1, 3) := by decide +kernel
theorem dX5_sumOfReserves_43 : decode cX5_sumOfReserves 43 = .ok (.goto (-39), 3) := by decide +kernel
theorem dX5_sumOfReserves_46 : decode cX5_sumOfReserves 46 = .ok (.iload_n 1, 1) := by decide +kernel
theorem dX5_sumOfReserves_47 : decode cX5_sumOfReserves 47 = .ok (.ireturn, 1) := by decide +kernel
theorem dX5_mostRunning_0 : decode cX5_mostRunning 0 = .ok (.iconst 0, 1) := by decide +kernel
theorem dX5_mostRunning_1 : decode cX5_mostRunning 1 = .ok (.istore_n 1, 1) := by decide +kernel
theorem dX5_mostRunning_2 : decode cX5_mostRunning 2 = .ok (.iconst 0, 1) := by decide +kernel
theorem dX5_mostRunning_3 : decode cX5_mostRunning 3 = .ok (.istore_n 2, 1) := by decide +kernel
theorem dX5_mostRunning_4 : decode cX5_mostRunning 4 = .ok (.iload_n 2, 1) := by decide +kernel
theorem dX5_mostRunning_5 : decode cX5_mostRunning 5 = .ok (.aload_n 0, 1) := by decide +kernel
theorem dX5_mostRunning_6 : decode cX5_mostRunning 6 = .ok (.getfield 20, 3) := by decide +kernel
theorem dX5_mostRunning_9 : decode cX5_mostRunning 9 = .ok (.if_icmp .ge 39, 3) := by decide +kernel
theorem dX5_mostRunning_12 : decode cX5_mostRunning 12 = .ok (.aload_n 0, 1) := by decide +kernel
theorem dX5_mostRunning_13 : decode cX5_mostRunning 13 = .ok (.getfield 11, 3) := by decide +kernel
theorem dX5_mostRunning_16 : decode cX5_mostRunning 16 = .ok (.iload_n 2, 1) := by decide +kernel
theorem dX5_mostRunning_17 : decode cX5_mostRunning 17 = .ok (.aaload, 1) := by decide +kernel
theorem dX5_mostRunning_18 : decode cX5_mostRunning 18 = .ok (.getfield 68, 3) := by decide +kernel
theorem dX5_mostRunning_21 : decode cX5_mostRunning 21 = .ok (.ifCond .eq 21, 3) := by decide +kernel
theorem dX5_mostRunning_24 : decode cX5_mostRunning 24 = .ok (.iload_n 1, 1) := by decide +kernel
theorem dX5_mostRunning_25 : decode cX5_mostRunning 25 = .ok (.aload_n 0, 1) := by decide +kernel
theorem dX5_mostRunning_26 : decode cX5_mostRunning 26 = .ok (.aload_n 0, 1) := by decide +kernel
theorem dX5_mostRunning_27 : decode cX5_mostRunning 27 = .ok (.getfield 11, 3) := by decide +kernel
theorem dX5_mostRunning_30 : decode cX5_mostRunning 30 = .ok (.iload_n 2, 1) := by decide +kernel
theorem dX5_mostRunning_31 : decode cX5_mostRunning 31 = .ok (.aaload, 1) := by decide +kernel
theorem dX5_mostRunning_32 : decode cX5_mostRunning 32 = .ok (.getfield 95, 3) := by decide +kernel
theorem dX5_mostRunning_35 : decode cX5_mostRunning 35 = .ok (.invokevirtual 229, 3) := by decide +kernel
theorem dX5_mostRunning_38 : decode cX5_mostRunning 38 = .ok (.invokestatic 197, 3) := by decide +kernel
theorem dX5_mostRunning_41 : decode cX5_mostRunning 41 = .ok (.istore_n 1, 1) := by decide +kernel
theorem dX5_mostRunning_42 : decode cX5_mostRunning 42 = .ok (.iinc 2 1, 3) := by decide +kernel
theorem dX5_mostRunning_45 : decode cX5_mostRunning 45 = .ok (.goto (-41), 3) := by decide +kernel
theorem dX5_mostRunning_48 : decode cX5_mostRunning 48 = .ok (.iload_n 1, 1) := by decide +kernel
theorem dX5_mostRunning_49 : decode cX5_mostRunning 49 = .ok (.ireturn, 1) := by decide +kernel
theorem dX5_countRunning_0 : decode cX5_countRunning 0 = .ok (.iconst 0, 1) := by decide +kernel
theorem dX5_countRunning_1 : decode cX5_countRunning 1 = .ok (.istore_n 2, 1) := by decide +kernel
theorem dX5_countRunning_2 : decode cX5_countRunning 2 = .ok (.iconst 0, 1) := by decide +kernel
theorem dX5_countRunning_3 : decode cX5_countRunning 3 = .ok (.istore_n 3, 1) := by decide +kernel
theorem dX5_countRunning_4 : decode cX5_countRunning 4 = .ok (.iload_n 3, 1) := by decide +kernel
theorem dX5_countRunning_5 : decode cX5_countRunning 5 = .ok (.aload_n 0, 1) := by decide +kernel
theorem dX5_countRunning_6 : decode cX5_countRunning 6 = .ok (.getfield 20, 3) := by decide +kernel
theorem dX5_countRunning_9 : decode cX5_countRunning 9 = .ok (.if_icmp .ge 30, 3) := by decide +kernel
theorem dX5_countRunning_12 : decode cX5_countRunning 12 = .ok (.iload_n 2, 1) := by decide +kernel
theorem dX5_countRunning_13 : decode cX5_countRunning 13 = .ok (.aload_n 0, 1) := by decide +kernel
theorem dX5_countRunning_14 : decode cX5_countRunning 14 = .ok (.getfield 11, 3) := by decide +kernel
theorem dX5_countRunning_17 : decode cX5_countRunning 17 = .ok (.iload_n 3, 1) := by decide +kernel
theorem dX5_countRunning_18 : decode cX5_countRunning 18 = .ok (.aaload, 1) := by decide +kernel
theorem dX5_countRunning_19 : decode cX5_countRunning 19 = .ok (.iload_n 1, 1) := by decide +kernel
theorem dX5_countRunning_20 : decode cX5_countRunning 20 = .ok (.invokevirtual 232, 3) := by decide +kernel
theorem dX5_countRunning_23 : decode cX5_countRunning 23 = .ok (.ifCond .eq 7, 3) := by decide +kernel
theorem dX5_countRunning_26 : decode cX5_countRunning 26 = .ok (.iconst 1, 1) := by decide +kernel
theorem dX5_countRunning_27 : decode cX5_countRunning 27 = .ok (.goto 4, 3) := by decide +kernel
theorem dX5_countRunning_30 : decode cX5_countRunning 30 = .ok (.iconst 0, 1) := by decide +kernel
theorem dX5_countRunning_31 : decode cX5_countRunning 31 = .ok (.iadd, 1) := by decide +kernel
theorem dX5_countRunning_32 : decode cX5_countRunning 32 = .ok (.istore_n 2, 1) := by decide +kernel
theorem dX5_countRunning_33 : decode cX5_countRunning 33 = .ok (.iinc 3 1, 3) := by decide +kernel
theorem dX5_countRunning_36 : decode cX5_countRunning 36 = .ok (.goto (-32), 3) := by decide +kernel
theorem dX5_countRunning_39 : decode cX5_countRunning 39 = .ok (.iload_n 2, 1) := by decide +kernel
theorem dX5_countRunning_40 : decode cX5_countRunning 40 = .ok (.ireturn, 1) := by decide +kernel
theorem dX5_rowValue_0 : decode cX5_rowValue 0 = .ok (.iload_n 3, 1) := by decide +kernel
theorem dX5_rowValue_1 : decode cX5_rowValue 1 = .ok (.tableswitch 51 0 2 #[27, 34, 40], 27) := by decide +kernel
theorem dX5_rowValue_28 : decode cX5_rowValue 28 = .ok (.aload_n 0, 1) := by decide +kernel
theorem dX5_rowValue_29 : decode cX5_rowValue 29 = .ok (.aload_n 1, 1) := by decide +kernel
theorem dX5_rowValue_30 : decode cX5_rowValue 30 = .ok (.iload_n 2, 1) := by decide +kernel
theorem dX5_rowValue_31 : decode cX5_rowValue 31 = .ok (.invokevirtual 236, 3) := by decide +kernel
theorem dX5_rowValue_34 : decode cX5_rowValue 34 = .ok (.ireturn, 1) := by decide +kernel
theorem dX5_rowValue_35 : decode cX5_rowValue 35 = .ok (.aload_n 1, 1) := by decide +kernel
theorem dX5_rowValue_36 : decode cX5_rowValue 36 = .ok (.iload_n 2, 1) := by decide +kernel
theorem dX5_rowValue_37 : decode cX5_rowValue 37 = .ok (.invokevirtual 98, 3) := by decide +kernel
theorem dX5_rowValue_40 : decode cX5_rowValue 40 = .ok (.ireturn, 1) := by decide +kernel
theorem dX5_rowValue_41 : decode cX5_rowValue 41 = .ok (.aload_n 1, 1) := by decide +kernel
theorem dX5_rowValue_42 : decode cX5_rowValue 42 = .ok (.getfield 82, 3) := by decide +kernel
theorem dX5_rowValue_45 : decode cX5_rowValue 45 = .ok (.aload_n 1, 1) := by decide +kernel
theorem dX5_rowValue_46 : decode cX5_rowValue 46 = .ok (.iload_n 2, 1) := by decide +kernel
theorem dX5_rowValue_47 : decode cX5_rowValue 47 = .ok (.invokevirtual 98, 3) := by decide +kernel
theorem dX5_rowValue_50 : decode cX5_rowValue 50 = .ok (.isub, 1) := by decide +kernel
theorem dX5_rowValue_51 : decode cX5_rowValue 51 = .ok (.ireturn, 1) := by decide +kernel
theorem dX5_rowValue_52 : decode cX5_rowValue 52 = .ok (.aload_n 0, 1) := by decide +kernel
theorem dX5_rowValue_53 : decode cX5_rowValue 53 = .ok (.aload_n 1, 1) := by decide +kernel
theorem dX5_rowValue_54 : decode cX5_rowValue 54 = .ok (.iload_n 2, 1) := by decide +kernel
theorem dX5_rowValue_55 : decode cX5_rowValue 55 = .ok (.invokevirtual 225, 3) := by decide +kernel
theorem dX5_rowValue_58 : decode cX5_rowValue 58 = .ok (.ifCond .eq 7, 3) := by decide +kernel
theorem dX5_rowValue_61 : decode cX5_rowValue 61 = .ok (.iconst 1, 1) := by decide +kernel
theorem dX5_rowValue_62 : decode cX5_rowValue 62 = .ok (.goto 4, 3) := by decide +kernel
theorem dX5_rowValue_65 : decode cX5_rowValue 65 = .ok (.iconst 0, 1) := by decide +kernel
theorem dX5_rowValue_66 : decode cX5_rowValue 66 = .ok (.ireturn, 1) := by decide +kernel
theorem dX5_countChildren_0 : decode cX5_countChildren 0 = .ok (.iconst 0, 1) := by decide +kernel
theorem dX5_countChildren_1 : decode cX5_countChildren 1 = .ok (.istore_n 3, 1) := by decide +kernel
theorem dX5_countChildren_2 : decode cX5_countChildren 2 = .ok (.iconst 1, 1) := by decide +kernel
theorem dX5_countChildren_3 : decode cX5_countChildren 3 = .ok (.istore 4, 2) := by decide +kernel
theorem dX5_countChildren_5 : decode cX5_countChildren 5 = .ok (.iload 4, 2) := by decide +kernel
theorem dX5_countChildren_7 : decode cX5_countChildren 7 = .ok (.aload_n 0, 1) := by decide +kernel
theorem dX5_countChildren_8 : decode cX5_countChildren 8 = .ok (.getfield 20, 3) := by decide +kernel
theorem dX5_countChildren_11 : decode cX5_countChildren 11 = .ok (.if_icmp .ge 35, 3) := by decide +kernel
theorem dX5_countChildren_14 : decode cX5_countChildren 14 = .ok (.iload_n 3, 1) := by decide +kernel
theorem dX5_countChildren_15 : decode cX5_countChildren 15 = .ok (.aload_n 0, 1) := by decide +kernel
theorem dX5_countChildren_16 : decode cX5_countChildren 16 = .ok (.getfield 11, 3) := by decide +kernel
theorem dX5_countChildren_19 : decode cX5_countChildren 19 = .ok (.iload 4, 2) := by decide +kernel
theorem dX5_countChildren_21 : decode cX5_countChildren 21 = .ok (.aaload, 1) := by decide +kernel
theorem dX5_countChildren_22 : decode cX5_countChildren 22 = .ok (.aload_n 1, 1) := by decide +kernel
theorem dX5_countChildren_23 : decode cX5_countChildren 23 = .ok (.getfield 35, 3) := by decide +kernel
theorem dX5_countChildren_26 : decode cX5_countChildren 26 = .ok (.iload_n 2, 1) := by decide +kernel
theorem dX5_countChildren_27 : decode cX5_countChildren 27 = .ok (.invokevirtual 239, 3) := by decide +kernel
theorem dX5_countChildren_30 : decode cX5_countChildren 30 = .ok (.ifCond .eq 7, 3) := by decide +kernel
theorem dX5_countChildren_33 : decode cX5_countChildren 33 = .ok (.iconst 1, 1) := by decide +kernel
theorem dX5_countChildren_34 : decode cX5_countChildren 34 = .ok (.goto 4, 3) := by decide +kernel
theorem dX5_countChildren_37 : decode cX5_countChildren 37 = .ok (.iconst 0, 1) := by decide +kernel
theorem dX5_countChildren_38 : decode cX5_countChildren 38 = .ok (.iadd, 1) := by decide +kernel
theorem dX5_countChildren_39 : decode cX5_countChildren 39 = .ok (.istore_n 3, 1) := by decide +kernel
theorem dX5_countChildren_40 : decode cX5_countChildren 40 = .ok (.iinc 4 1, 3) := by decide +kernel
theorem dX5_countChildren_43 : decode cX5_countChildren 43 = .ok (.goto (-38), 3) := by decide +kernel
theorem dX5_countChildren_46 : decode cX5_countChildren 46 = .ok (.iload_n 3, 1) := by decide +kernel
theorem dX5_countChildren_47 : decode cX5_countChildren 47 = .ok (.ireturn, 1) := by decide +kernel
theorem dX5_isCriticalRow_0 : decode cX5_isCriticalRow 0 = .ok (.aload_n 1, 1) := by decide +kernel
theorem dX5_isCriticalRow_1 : decode cX5_isCriticalRow 1 = .ok (.invokevirtual 243, 3) := by decide +kernel
theorem dX5_isCriticalRow_4 : decode cX5_isCriticalRow 4 = .ok (.ifCond .eq 28, 3) := by decide +kernel
theorem dX5_isCriticalRow_7 : decode cX5_isCriticalRow 7 = .ok (.aload_n 1, 1) := by decide +kernel
theorem dX5_isCriticalRow_8 : decode cX5_isCriticalRow 8 = .ok (.getfield 82, 3) := by decide +kernel
theorem dX5_isCriticalRow_11 : decode cX5_isCriticalRow 11 = .ok (.aload_n 1, 1) := by decide +kernel
theorem dX5_isCriticalRow_12 : decode cX5_isCriticalRow 12 = .ok (.iload_n 2, 1) := by decide +kernel
theorem dX5_isCriticalRow_13 : decode cX5_isCriticalRow 13 = .ok (.invokevirtual 98, 3) := by decide +kernel
theorem dX5_isCriticalRow_16 : decode cX5_isCriticalRow 16 = .ok (.if_icmp .ne 16, 3) := by decide +kernel
theorem dX5_isCriticalRow_19 : decode cX5_isCriticalRow 19 = .ok (.aload_n 0, 1) := by decide +kernel
theorem dX5_isCriticalRow_20 : decode cX5_isCriticalRow 20 = .ok (.aload_n 1, 1) := by decide +kernel
theorem dX5_isCriticalRow_21 : decode cX5_isCriticalRow 21 = .ok (.iload_n 2, 1) := by decide +kernel
theorem dX5_isCriticalRow_22 : decode cX5_isCriticalRow 22 = .ok (.invokevirtual 236, 3) := by decide +kernel
theorem dX5_isCriticalRow_25 : decode cX5_isCriticalRow 25 = .ok (.ifCond .le 7, 3) := by decide +kernel
theorem dX5_isCriticalRow_28 : decode cX5_isCriticalRow 28 = .ok (.iconst 1, 1) := by decide +kernel
theorem dX5_isCriticalRow_29 : decode cX5_isCriticalRow 29 = .ok (.goto 4, 3) := by decide +kernel
theorem dX5_isCriticalRow_32 : decode cX5_isCriticalRow 32 = .ok (.iconst 0, 1) := by decide +kernel
theorem dX5_isCriticalRow_33 : decode cX5_isCriticalRow 33 = .ok (.ireturn, 1) := by decide +kernel
theorem dX5_childNumber_0 : decode cX5_childNumber 0 = .ok (.iconst 1, 1) := by decide +kernel
theorem dX5_childNumber_1 : decode cX5_childNumber 1 = .ok (.istore 4, 2) := by decide +kernel
theorem dX5_childNumber_3 : decode cX5_childNumber 3 = .ok (.iload 4, 2) := by decide +kernel
theorem dX5_childNumber_5 : decode cX5_childNumber 5 = .ok (.aload_n 0, 1) := by decide +kernel
theorem dX5_childNumber_6 : decode cX5_childNumber 6 = .ok (.getfield 20, 3) := by decide +kernel
theorem dX5_childNumber_9 : decode cX5_childNumber 9 = .ok (.if_icmp .ge 46, 3) := by decide +kernel
theorem dX5_childNumber_12 : decode cX5_childNumber 12 = .ok (.aload_n 0, 1) := by decide +kernel
theorem dX5_childNumber_13 : decode cX5_childNumber 13 = .ok (.getfield 11, 3) := by decide +kernel
theorem dX5_childNumber_16 : decode cX5_childNumber 16 = .ok (.iload 4, 2) := by decide +kernel
theorem dX5_childNumber_18 : decode cX5_childNumber 18 = .ok (.aaload, 1) := by decide +kernel
theorem dX5_childNumber_19 : decode cX5_childNumber 19 = .ok (.astore 5, 2) := by decide +kernel
theorem dX5_childNumber_21 : decode cX5_childNumber 21 = .ok (.aload 5, 2) := by decide +kernel
theorem dX5_childNumber_23 : decode cX5_childNumber 23 = .ok (.aload_n 1, 1) := by decide +kernel
theorem dX5_childNumber_24 : decode cX5_childNumber 24 = .ok (.getfield 35, 3) := by decide +kernel
theorem dX5_childNumber_27 : decode cX5_childNumber 27 = .ok (.iload_n 2, 1) := by decide +kernel
theorem dX5_childNumber_28 : decode cX5_childNumber 28 = .ok (.invokevirtual 239, 3) := by decide +kernel
theorem dX5_childNumber_31 : decode cX5_childNumber 31 = .ok (.ifCond .eq 18, 3) := by decide +kernel
theorem dX5_childNumber_34 : decode cX5_childNumber 34 = .ok (.aload 5, 2) := by decide +kernel
theorem dX5_childNumber_36 : decode cX5_childNumber 36 = .ok (.getfield 92, 3) := by decide +kernel
theorem dX5_childNumber_39 : decode cX5_childNumber 39 = .ok (.iload_n 3, 1) := by decide +kernel
theorem dX5_childNumber_40 : decode cX5_childNumber 40 = .ok (.if_icmp .ne 9, 3) := by decide +kernel
theorem dX5_childNumber_43 : decode cX5_childNumber 43 = .ok (.aload 5, 2) := by decide +kernel
theorem dX5_childNumber_45 : decode cX5_childNumber 45 = .ok (.getfield 35, 3) := by decide +kernel
theorem dX5_childNumber_48 : decode cX5_childNumber 48 = .ok (.ireturn, 1) := by decide +kernel
theorem dX5_childNumber_49 : decode cX5_childNumber 49 = .ok (.iinc 4 1, 3) := by decide +kernel
theorem dX5_childNumber_52 : decode cX5_childNumber 52 = .ok (.goto (-49), 3) := by decide +kernel
theorem dX5_childNumber_55 : decode cX5_childNumber 55 = .ok (.iconst (-1), 1) := by decide +kernel
theorem dX5_childNumber_56 : decode cX5_childNumber 56 = .ok (.ireturn, 1) := by decide +kernel
theorem dX5_criticalNumber_0 : decode cX5_criticalNumber 0 = .ok (.iload_n 1, 1) := by decide +kernel
theorem dX5_criticalNumber_1 : decode cX5_criticalNumber 1 = .ok (.aload_n 0, 1) := by decide +kernel
theorem dX5_criticalNumber_2 : decode cX5_criticalNumber 2 = .ok (.getfield 20, 3) := by decide +kernel
theorem dX5_criticalNumber_5 : decode cX5_criticalNumber 5 = .ok (.if_icmp .lt 5, 3) := by decide +kernel
theorem dX5_criticalNumber_8 : decode cX5_criticalNumber 8 = .ok (.iconst (-1), 1) := by decide +kernel
theorem dX5_criticalNumber_9 : decode cX5_criticalNumber 9 = .ok (.ireturn, 1) := by decide +kernel
theorem dX5_criticalNumber_10 : decode cX5_criticalNumber 10 = .ok (.aload_n 0, 1) := by decide +kernel
theorem dX5_criticalNumber_11 : decode cX5_criticalNumber 11 = .ok (.aconst_null, 1) := by decide +kernel
theorem dX5_criticalNumber_12 : decode cX5_criticalNumber 12 = .ok (.invokevirtual 246, 3) := by decide +kernel
theorem dX5_criticalNumber_15 : decode cX5_criticalNumber 15 = .ok (.astore_n 2, 1) := by decide +kernel
theorem dX5_criticalNumber_16 : decode cX5_criticalNumber 16 = .ok (.iconst 0, 1) := by decide +kernel
theorem dX5_criticalNumber_17 : decode cX5_criticalNumber 17 = .ok (.istore_n 3, 1) := by decide +kernel
theorem dX5_criticalNumber_18 : decode cX5_criticalNumber 18 = .ok (.iload_n 3, 1) := by decide +kernel
theorem dX5_criticalNumber_19 : decode cX5_criticalNumber 19 = .ok (.iload_n 1, 1) := by decide +kernel
theorem dX5_criticalNumber_20 : decode cX5_criticalNumber 20 = .ok (.if_icmp .ge 19, 3) := by decide +kernel
theorem dX5_criticalNumber_23 : decode cX5_criticalNumber 23 = .ok (.aload_n 2, 1) := by decide +kernel
theorem dX5_criticalNumber_24 : decode cX5_criticalNumber 24 = .ok (.ifnull 15, 3) := by decide +kernel
theorem dX5_criticalNumber_27 : decode cX5_criticalNumber 27 = .ok (.aload_n 0, 1) := by decide +kernel
theorem dX5_criticalNumber_28 : decode cX5_criticalNumber 28 = .ok (.aload_n 2, 1) := by decide +kernel
theorem dX5_criticalNumber_29 : decode cX5_criticalNumber 29 = .ok (.invokevirtual 246, 3) := by decide +kernel
theorem dX5_criticalNumber_32 : decode cX5_criticalNumber 32 = .ok (.astore_n 2, 1) := by decide +kernel
theorem dX5_criticalNumber_33 : decode cX5_criticalNumber 33 = .ok (.iinc 3 1, 3) := by decide +kernel
theorem dX5_criticalNumber_36 : decode cX5_criticalNumber 36 = .ok (.goto (-18), 3) := by decide +kernel
theorem dX5_criticalNumber_39 : decode cX5_criticalNumber 39 = .ok (.aload_n 2, 1) := by decide +kernel
theorem dX5_criticalNumber_40 : decode cX5_criticalNumber 40 = .ok (.ifnonnull 7, 3) := by decide +kernel
theorem dX5_criticalNumber_43 : decode cX5_criticalNumber 43 = .ok (.iconst (-1), 1) := by decide +kernel
theorem dX5_criticalNumber_44 : decode cX5_criticalNumber 44 = .ok (.goto 7, 3) := by decide +kernel
theorem dX5_criticalNumber_47 : decode cX5_criticalNumber 47 = .ok (.aload_n 2, 1) := by decide +kernel
theorem dX5_criticalNumber_48 : decode cX5_criticalNumber 48 = .ok (.getfield 35, 3) := by decide +kernel
theorem dX5_criticalNumber_51 : decode cX5_criticalNumber 51 = .ok (.ireturn, 1) := by decide +kernel
theorem dX5_nextCritical_0 : decode cX5_nextCritical 0 = .ok (.aconst_null, 1) := by decide +kernel
theorem dX5_nextCritical_1 : decode cX5_nextCritical 1 = .ok (.astore_n 2, 1) := by decide +kernel
theorem dX5_nextCritical_2 : decode cX5_nextCritical 2 = .ok (.iconst 0, 1) := by decide +kernel
theorem dX5_nextCritical_3 : decode cX5_nextCritical 3 = .ok (.istore_n 3, 1) := by decide +kernel
theorem dX5_nextCritical_4 : decode cX5_nextCritical 4 = .ok (.iload_n 3, 1) := by decide +kernel
theorem dX5_nextCritical_5 : decode cX5_nextCritical 5 = .ok (.aload_n 0, 1) := by decide +kernel
theorem dX5_nextCritical_6 : decode cX5_nextCritical 6 = .ok (.getfield 20, 3) := by decide +kernel
theorem dX5_nextCritical_9 : decode cX5_nextCritical 9 = .ok (.if_icmp .ge 66, 3) := by decide +kernel
theorem dX5_nextCritical_12 : decode cX5_nextCritical 12 = .ok (.aload_n 0, 1) := by decide +kernel
theorem dX5_nextCritical_13 : decode cX5_nextCritical 13 = .ok (.getfield 11, 3) := by decide +kernel
theorem dX5_nextCritical_16 : decode cX5_nextCritical 16 = .ok (.iload_n 3, 1) := by decide +kernel
theorem dX5_nextCritical_17 : decode cX5_nextCritical 17 = .ok (.aaload, 1) := by decide +kernel
theorem dX5_nextCritical_18 : decode cX5_nextCritical 18 = .ok (.astore 4, 2) := by decide +kernel
theorem dX5_nextCritical_20 : decode cX5_nextCritical 20 = .ok (.aload_n 1, 1) := by decide +kernel
theorem dX5_nextCritical_21 : decode cX5_nextCritical 21 = .ok (.ifnull 12, 3) := by decide +kernel
theorem dX5_nextCritical_24 : decode cX5_nextCritical 24 = .ok (.aload_n 1, 1) := by decide +kernel
theorem dX5_nextCritical_25 : decode cX5_nextCritical 25 = .ok (.aload 4, 2) := by decide +kernel
theorem dX5_nextCritical_27 : decode cX5_nextCritical 27 = .ok (.invokestatic 250, 3) := by decide +kernel
theorem dX5_nextCritical_30 : decode cX5_nextCritical 30 = .ok (.ifCond .eq 7, 3) := by decide +kernel
theorem dX5_nextCritical_33 : decode cX5_nextCritical 33 = .ok (.iconst 1, 1) := by decide +kernel
theorem dX5_nextCritical_34 : decode cX5_nextCritical 34 = .ok (.goto 4, 3) := by decide +kernel
theorem dX5_nextCritical_37 : decode cX5_nextCritical 37 = .ok (.iconst 0, 1) := by decide +kernel
theorem dX5_nextCritical_38 : decode cX5_nextCritical 38 = .ok (.istore 5, 2) := by decide +kernel
theorem dX5_nextCritical_40 : decode cX5_nextCritical 40 = .ok (.aload 4, 2) := by decide +kernel
theorem dX5_nextCritical_42 : decode cX5_nextCritical 42 = .ok (.invokevirtual 221, 3) := by decide +kernel
theorem dX5_nextCritical_45 : decode cX5_nextCritical 45 = .ok (.ifCond .eq 24, 3) := by decide +kernel
theorem dX5_nextCritical_48 : decode cX5_nextCritical 48 = .ok (.iload 5, 2) := by decide +kernel
theorem dX5_nextCritical_50 : decode cX5_nextCritical 50 = .ok (.ifCond .eq 19, 3) := by decide +kernel
theorem dX5_nextCritical_53 : decode cX5_nextCritical 53 = .ok (.aload_n 2, 1) := by decide +kernel
theorem dX5_nextCritical_54 : decode cX5_nextCritical 54 = .ok (.ifnull 12, 3) := by decide +kernel
theorem dX5_nextCritical_57 : decode cX5_nextCritical 57 = .ok (.aload 4, 2) := by decide +kernel
theorem dX5_nextCritical_59 : decode cX5_nextCritical 59 = .ok (.aload_n 2, 1) := by decide +kernel
theorem dX5_nextCritical_60 : decode cX5_nextCritical 60 = .ok (.invokestatic 250, 3) := by decide +kernel
theorem dX5_nextCritical_63 : decode cX5_nextCritical 63 = .ok (.ifCond .eq 6, 3) := by decide +kernel
theorem dX5_nextCritical_66 : decode cX5_nextCritical 66 = .ok (.aload 4, 2) := by decide +kernel
theorem dX5_nextCritical_68 : decode cX5_nextCritical 68 = .ok (.astore_n 2, 1) := by decide +kernel
theorem dX5_nextCritical_69 : decode cX5_nextCritical 69 = .ok (.iinc 3 1, 3) := by decide +kernel
theorem dX5_nextCritical_72 : decode cX5_nextCritical 72 = .ok (.goto (-68), 3) := by decide +kernel
theorem dX5_nextCritical_75 : decode cX5_nextCritical 75 = .ok (.aload_n 2, 1) := by decide +kernel
theorem dX5_nextCritical_76 : decode cX5_nextCritical 76 = .ok (.areturn, 1) := by decide +kernel
theorem dX5_startsBefore_0 : decode cX5_startsBefore 0 = .ok (.aload_n 0, 1) := by decide +kernel
theorem dX5_startsBefore_1 : decode cX5_startsBefore 1 = .ok (.getfield 95, 3) := by decide +kernel
theorem dX5_startsBefore_4 : decode cX5_startsBefore 4 = .ok (.aload_n 1, 1) := by decide +kernel
theorem dX5_startsBefore_5 : decode cX5_startsBefore 5 = .ok (.getfield 95, 3) := by decide +kernel
theorem dX5_startsBefore_8 : decode cX5_startsBefore 8 = .ok (.if_icmp .lt 25, 3) := by decide +kernel
theorem dX5_startsBefore_11 : decode cX5_startsBefore 11 = .ok (.aload_n 0, 1) := by decide +kernel
theorem dX5_startsBefore_12 : decode cX5_startsBefore 12 = .ok (.getfield 95, 3) := by decide +kernel
theorem dX5_startsBefore_15 : decode cX5_startsBefore 15 = .ok (.aload_n 1, 1) := by decide +kernel
theorem dX5_startsBefore_16 : decode cX5_startsBefore 16 = .ok (.getfield 95, 3) := by decide +kernel
theorem dX5_startsBefore_19 : decode cX5_startsBefore 19 = .ok (.if_icmp .ne 18, 3) := by decide +kernel
theorem dX5_startsBefore_22 : decode cX5_startsBefore 22 = .ok (.aload_n 0, 1) := by decide +kernel
theorem dX5_startsBefore_23 : decode cX5_startsBefore 23 = .ok (.getfield 35, 3) := by decide +kernel
theorem dX5_startsBefore_26 : decode cX5_startsBefore 26 = .ok (.aload_n 1, 1) := by decide +kernel
theorem dX5_startsBefore_27 : decode cX5_startsBefore 27 = .ok (.getfield 35, 3) := by decide +kernel
theorem dX5_startsBefore_30 : decode cX5_startsBefore 30 = .ok (.if_icmp .ge 7, 3) := by decide +kernel
theorem dX5_startsBefore_33 : decode cX5_startsBefore 33 = .ok (.iconst 1, 1) := by decide +kernel
theorem dX5_startsBefore_34 : decode cX5_startsBefore 34 = .ok (.goto 4, 3) := by decide +kernel
theorem dX5_startsBefore_37 : decode cX5_startsBefore 37 = .ok (.iconst 0, 1) := by decide +kernel
theorem dX5_startsBefore_38 : decode cX5_startsBefore 38 = .ok (.ireturn, 1) := by decide +kernel
theorem dX5_nextNumbered_0 : decode cX5_nextNumbered 0 = .ok (.aconst_null, 1) := by decide +kernel
theorem dX5_nextNumbered_1 : decode cX5_nextNumbered 1 = .ok (.astore_n 2, 1) := by decide +kernel
theorem dX5_nextNumbered_2 : decode cX5_nextNumbered 2 = .ok (.iconst 0, 1) := by decide +kernel
theorem dX5_nextNumbered_3 : decode cX5_nextNumbered 3 = .ok (.istore_n 3, 1) := by decide +kernel
theorem dX5_nextNumbered_4 : decode cX5_nextNumbered 4 = .ok (.iload_n 3, 1) := by decide +kernel
theorem dX5_nextNumbered_5 : decode cX5_nextNumbered 5 = .ok (.aload_n 0, 1) := by decide +kernel
theorem dX5_nextNumbered_6 : decode cX5_nextNumbered 6 = .ok (.getfield 20, 3) := by decide +kernel
theorem dX5_nextNumbered_9 : decode cX5_nextNumbered 9 = .ok (.if_icmp .ge 45, 3) := by decide +kernel
theorem dX5_nextNumbered_12 : decode cX5_nextNumbered 12 = .ok (.aload_n 0, 1) := by decide +kernel
theorem dX5_nextNumbered_13 : decode cX5_nextNumbered 13 = .ok (.getfield 11, 3) := by decide +kernel
theorem dX5_nextNumbered_16 : decode cX5_nextNumbered 16 = .ok (.iload_n 3, 1) := by decide +kernel
theorem dX5_nextNumbered_17 : decode cX5_nextNumbered 17 = .ok (.aaload, 1) := by decide +kernel
theorem dX5_nextNumbered_18 : decode cX5_nextNumbered 18 = .ok (.astore 4, 2) := by decide +kernel
theorem dX5_nextNumbered_20 : decode cX5_nextNumbered 20 = .ok (.aload 4, 2) := by decide +kernel
theorem dX5_nextNumbered_22 : decode cX5_nextNumbered 22 = .ok (.getfield 35, 3) := by decide +kernel
theorem dX5_nextNumbered_25 : decode cX5_nextNumbered 25 = .ok (.iload_n 1, 1) := by decide +kernel
theorem dX5_nextNumbered_26 : decode cX5_nextNumbered 26 = .ok (.if_icmp .le 22, 3) := by decide +kernel
theorem dX5_nextNumbered_29 : decode cX5_nextNumbered 29 = .ok (.aload_n 2, 1) := by decide +kernel
theorem dX5_nextNumbered_30 : decode cX5_nextNumbered 30 = .ok (.ifnull 15, 3) := by decide +kernel
theorem dX5_nextNumbered_33 : decode cX5_nextNumbered 33 = .ok (.aload 4, 2) := by decide +kernel
theorem dX5_nextNumbered_35 : decode cX5_nextNumbered 35 = .ok (.getfield 35, 3) := by decide +kernel
theorem dX5_nextNumbered_38 : decode cX5_nextNumbered 38 = .ok (.aload_n 2, 1) := by decide +kernel
theorem dX5_nextNumbered_39 : decode cX5_nextNumbered 39 = .ok (.getfield 35, 3) := by decide +kernel
theorem dX5_nextNumbered_42 : decode cX5_nextNumbered 42 = .ok (.if_icmp .ge 6, 3) := by decide +kernel
theorem dX5_nextNumbered_45 : decode cX5_nextNumbered 45 = .ok (.aload 4, 2) := by decide +kernel
theorem dX5_nextNumbered_47 : decode cX5_nextNumbered 47 = .ok (.astore_n 2, 1) := by decide +kernel
theorem dX5_nextNumbered_48 : decode cX5_nextNumbered 48 = .ok (.iinc 3 1, 3) := by decide +kernel
theorem dX5_nextNumbered_51 : decode cX5_nextNumbered 51 = .ok (.goto (-47), 3) := by decide +kernel
theorem dX5_nextNumbered_54 : decode cX5_nextNumbered 54 = .ok (.aload_n 2, 1) := by decide +kernel
theorem dX5_nextNumbered_55 : decode cX5_nextNumbered 55 = .ok (.areturn, 1) := by decide +kernel
theorem dX5_greatestDuration_0 : decode cX5_greatestDuration 0 = .ok (.aload_n 1, 1) := by decide +kernel
theorem dX5_greatestDuration_1 : decode cX5_greatestDuration 1 = .ok (.getfield 72, 3) := by decide +kernel
theorem dX5_greatestDuration_4 : decode cX5_greatestDuration 4 = .ok (.istore_n 2, 1) := by decide +kernel
theorem dX5_greatestDuration_5 : decode cX5_greatestDuration 5 = .ok (.iload_n 2, 1) := by decide +kernel
theorem dX5_greatestDuration_6 : decode cX5_greatestDuration 6 = .ok (.bipush 60, 2) := by decide +kernel
theorem dX5_greatestDuration_8 : decode cX5_greatestDuration 8 = .ok (.if_icmp .ge 27, 3) := by decide +kernel
theorem dX5_greatestDuration_11 : decode cX5_greatestDuration 11 = .ok (.aload_n 1, 1) := by decide +kernel
theorem dX5_greatestDuration_12 : decode cX5_greatestDuration 12 = .ok (.aload_n 1, 1) := by decide +kernel
theorem dX5_greatestDuration_13 : decode cX5_greatestDuration 13 = .ok (.iload_n 2, 1) := by decide +kernel
theorem dX5_greatestDuration_14 : decode cX5_greatestDuration 14 = .ok (.iconst 1, 1) := by decide +kernel
theorem dX5_greatestDuration_15 : decode cX5_greatestDuration 15 = .ok (.iadd, 1) := by decide +kernel
theorem dX5_greatestDuration_16 : decode cX5_greatestDuration 16 = .ok (.invokevirtual 253, 3) := by decide +kernel
theorem dX5_greatestDuration_19 : decode cX5_greatestDuration 19 = .ok (.invokevirtual 256, 3) := by decide +kernel
theorem dX5_greatestDuration_22 : decode cX5_greatestDuration 22 = .ok (.aload_n 0, 1) := by decide +kernel
theorem dX5_greatestDuration_23 : decode cX5_greatestDuration 23 = .ok (.invokevirtual 194, 3) := by decide +kernel
theorem dX5_greatestDuration_26 : decode cX5_greatestDuration 26 = .ok (.if_icmp .gt 9, 3) := by decide +kernel
theorem dX5_greatestDuration_29 : decode cX5_greatestDuration 29 = .ok (.iinc 2 1, 3) := by decide +kernel
theorem dX5_greatestDuration_32 : decode cX5_greatestDuration 32 = .ok (.goto (-27), 3) := by decide +kernel
theorem dX5_greatestDuration_35 : decode cX5_greatestDuration 35 = .ok (.iload_n 2, 1) := by decide +kernel
theorem dX5_greatestDuration_36 : decode cX5_greatestDuration 36 = .ok (.ireturn, 1) := by decide +kernel
theorem dX5_cutNumber_0 : decode cX5_cutNumber 0 = .ok (.aconst_null, 1) := by decide +kernel
theorem dX5_cutNumber_1 : decode cX5_cutNumber 1 = .ok (.astore_n 1, 1) := by decide +kernel
theorem dX5_cutNumber_2 : decode cX5_cutNumber 2 = .ok (.iconst 0, 1) := by decide +kernel
theorem dX5_cutNumber_3 : decode cX5_cutNumber 3 = .ok (.istore_n 2, 1) := by decide +kernel
theorem dX5_cutNumber_4 : decode cX5_cutNumber 4 = .ok (.iload_n 2, 1) := by decide +kernel
theorem dX5_cutNumber_5 : decode cX5_cutNumber 5 = .ok (.aload_n 0, 1) := by decide +kernel
theorem dX5_cutNumber_6 : decode cX5_cutNumber 6 = .ok (.getfield 20, 3) := by decide +kernel
theorem dX5_cutNumber_9 : decode cX5_cutNumber 9 = .ok (.if_icmp .ge 69, 3) := by decide +kernel
theorem dX5_cutNumber_12 : decode cX5_cutNumber 12 = .ok (.aload_n 0, 1) := by decide +kernel
theorem dX5_cutNumber_13 : decode cX5_cutNumber 13 = .ok (.getfield 11, 3) := by decide +kernel
theorem dX5_cutNumber_16 : decode cX5_cutNumber 16 = .ok (.iload_n 2, 1) := by decide +kernel
theorem dX5_cutNumber_17 : decode cX5_cutNumber 17 = .ok (.aaload, 1) := by decide +kernel
theorem dX5_cutNumber_18 : decode cX5_cutNumber 18 = .ok (.astore_n 3, 1) := by decide +kernel
theorem dX5_cutNumber_19 : decode cX5_cutNumber 19 = .ok (.aload_n 3, 1) := by decide +kernel
theorem dX5_cutNumber_20 : decode cX5_cutNumber 20 = .ok (.getfield 68, 3) := by decide +kernel
theorem dX5_cutNumber_23 : decode cX5_cutNumber 23 = .ok (.ifCond .eq 49, 3) := by decide +kernel
theorem dX5_cutNumber_26 : decode cX5_cutNumber 26 = .ok (.aload_n 3, 1) := by decide +kernel
theorem dX5_cutNumber_27 : decode cX5_cutNumber 27 = .ok (.getfield 72, 3) := by decide +kernel
theorem dX5_cutNumber_30 : decode cX5_cutNumber 30 = .ok (.iconst 1, 1) := by decide +kernel
theorem dX5_cutNumber_31 : decode cX5_cutNumber 31 = .ok (.if_icmp .lt 41, 3) := by decide +kernel
theorem dX5_cutNumber_34 : decode cX5_cutNumber 34 = .ok (.aload_n 1, 1) := by decide +kernel
theorem dX5_cutNumber_35 : decode cX5_cutNumber 35 = .ok (.ifnull 14, 3) := by decide +kernel
theorem dX5_cutNumber_38 : decode cX5_cutNumber 38 = .ok (.aload_n 3, 1) := by decide +kernel
theorem dX5_cutNumber_39 : decode cX5_cutNumber 39 = .ok (.getfield 35, 3) := by decide +kernel
theorem dX5_cutNumber_42 : decode cX5_cutNumber 42 = .ok (.aload_n 1, 1) := by decide +kernel
theorem dX5_cutNumber_43 : decode cX5_cutNumber 43 = .ok (.getfield 35, 3) := by decide +kernel
theorem dX5_cutNumber_46 : decode cX5_cutNumber 46 = .ok (.if_icmp .ge 26, 3) := by decide +kernel
theorem dX5_cutNumber_49 : decode cX5_cutNumber 49 = .ok (.aload_n 3, 1) := by decide +kernel
theorem dX5_cutNumber_50 : decode cX5_cutNumber 50 = .ok (.aload_n 3, 1) := by decide +kernel
theorem dX5_cutNumber_51 : decode cX5_cutNumber 51 = .ok (.aload_n 3, 1) := by decide +kernel
theorem dX5_cutNumber_52 : decode cX5_cutNumber 52 = .ok (.getfield 72, 3) := by decide +kernel
theorem dX5_cutNumber_55 : decode cX5_cutNumber 55 = .ok (.iconst 1, 1) := by decide +kernel
theorem dX5_cutNumber_56 : decode cX5_cutNumber 56 = .ok (.isub, 1) := by decide +kernel
theorem dX5_cutNumber_57 : decode cX5_cutNumber 57 = .ok (.invokevirtual 253, 3) := by decide +kernel
theorem dX5_cutNumber_60 : decode cX5_cutNumber 60 = .ok (.invokevirtual 256, 3) := by decide +kernel
theorem dX5_cutNumber_63 : decode cX5_cutNumber 63 = .ok (.aload_n 0, 1) := by decide +kernel
theorem dX5_cutNumber_64 : decode cX5_cutNumber 64 = .ok (.invokevirtual 194, 3) := by decide +kernel
theorem dX5_cutNumber_67 : decode cX5_cutNumber 67 = .ok (.if_icmp .ge 5, 3) := by decide +kernel
theorem dX5_cutNumber_70 : decode cX5_cutNumber 70 = .ok (.aload_n 3, 1) := by decide +kernel
theorem dX5_cutNumber_71 : decode cX5_cutNumber 71 = .ok (.astore_n 1, 1) := by decide +kernel
theorem dX5_cutNumber_72 : decode cX5_cutNumber 72 = .ok (.iinc 2 1, 3) := by decide +kernel
theorem dX5_cutNumber_75 : decode cX5_cutNumber 75 = .ok (.goto (-71), 3) := by decide +kernel
theorem dX5_cutNumber_78 : decode cX5_cutNumber 78 = .ok (.aload_n 1, 1) := by decide +kernel
theorem dX5_cutNumber_79 : decode cX5_cutNumber 79 = .ok (.ifnonnull 7, 3) := by decide +kernel
theorem dX5_cutNumber_82 : decode cX5_cutNumber 82 = .ok (.iconst (-1), 1) := by decide +kernel
theorem dX5_cutNumber_83 : decode cX5_cutNumber 83 = .ok (.goto 7, 3) := by decide +kernel
theorem dX5_cutNumber_86 : decode cX5_cutNumber 86 = .ok (.aload_n 1, 1) := by decide +kernel
theorem dX5_cutNumber_87 : decode cX5_cutNumber 87 = .ok (.getfield 35, 3) := by decide +kernel
theorem dX5_cutNumber_90 : decode cX5_cutNumber 90 = .ok (.ireturn, 1) := by decide +kernel
theorem dX5_slackIfBorrowed_0 : decode cX5_slackIfBorrowed 0 = .ok (.aload_n 2, 1) := by decide +kernel
theorem dX5_slackIfBorrowed_1 : decode cX5_slackIfBorrowed 1 = .ok (.getfield 104, 3) := by decide +kernel
theorem dX5_slackIfBorrowed_4 : decode cX5_slackIfBorrowed 4 = .ok (.istore_n 3, 1) := by decide +kernel
theorem dX5_slackIfBorrowed_5 : decode cX5_slackIfBorrowed 5 = .ok (.aload_n 2, 1) := by decide +kernel
theorem dX5_slackIfBorrowed_6 : decode cX5_slackIfBorrowed 6 = .ok (.dup, 1) := by decide +kernel
theorem dX5_slackIfBorrowed_7 : decode cX5_slackIfBorrowed 7 = .ok (.getfield 75, 3) := by decide +kernel
theorem dX5_slackIfBorrowed_10 : decode cX5_slackIfBorrowed 10 = .ok (.iload_n 3, 1) := by decide +kernel
theorem dX5_slackIfBorrowed_11 : decode cX5_slackIfBorrowed 11 = .ok (.iadd, 1) := by decide +kernel
theorem dX5_slackIfBorrowed_12 : decode cX5_slackIfBorrowed 12 = .ok (.putfield 75, 3) := by decide +kernel
theorem dX5_slackIfBorrowed_15 : decode cX5_slackIfBorrowed 15 = .ok (.aload_n 0, 1) := by decide +kernel
theorem dX5_slackIfBorrowed_16 : decode cX5_slackIfBorrowed 16 = .ok (.invokevirtual 184, 3) := by decide +kernel
theorem dX5_slackIfBorrowed_19 : decode cX5_slackIfBorrowed 19 = .ok (.aload_n 1, 1) := by decide +kernel
theorem dX5_slackIfBorrowed_20 : decode cX5_slackIfBorrowed 20 = .ok (.getfield 104, 3) := by decide +kernel
theorem dX5_slackIfBorrowed_23 : decode cX5_slackIfBorrowed 23 = .ok (.istore 4, 2) := by decide +kernel
theorem dX5_slackIfBorrowed_25 : decode cX5_slackIfBorrowed 25 = .ok (.aload_n 2, 1) := by decide +kernel
theorem dX5_slackIfBorrowed_26 : decode cX5_slackIfBorrowed 26 = .ok (.dup, 1) := by decide +kernel
theorem dX5_slackIfBorrowed_27 : decode cX5_slackIfBorrowed 27 = .ok (.getfield 75, 3) := by decide +kernel
theorem dX5_slackIfBorrowed_30 : decode cX5_slackIfBorrowed 30 = .ok (.iload_n 3, 1) := by decide +kernel
theorem dX5_slackIfBorrowed_31 : decode cX5_slackIfBorrowed 31 = .ok (.isub, 1) := by decide +kernel
theorem dX5_slackIfBorrowed_32 : decode cX5_slackIfBorrowed 32 = .ok (.putfield 75, 3) := by decide +kernel
theorem dX5_slackIfBorrowed_35 : decode cX5_slackIfBorrowed 35 = .ok (.aload_n 0, 1) := by decide +kernel
theorem dX5_slackIfBorrowed_36 : decode cX5_slackIfBorrowed 36 = .ok (.invokevirtual 184, 3) := by decide +kernel
theorem dX5_slackIfBorrowed_39 : decode cX5_slackIfBorrowed 39 = .ok (.iload 4, 2) := by decide +kernel
theorem dX5_slackIfBorrowed_41 : decode cX5_slackIfBorrowed 41 = .ok (.ireturn, 1) := by decide +kernel
theorem dX5_mixNodes_0 : decode cX5_mixNodes 0 = .ok (.lload_n 1, 1) := by decide +kernel
theorem dX5_mixNodes_1 : decode cX5_mixNodes 1 = .ok (.lstore_n 3, 1) := by decide +kernel
theorem dX5_mixNodes_2 : decode cX5_mixNodes 2 = .ok (.aload_n 0, 1) := by decide +kernel
theorem dX5_mixNodes_3 : decode cX5_mixNodes 3 = .ok (.iconst (-1), 1) := by decide +kernel
theorem dX5_mixNodes_4 : decode cX5_mixNodes 4 = .ok (.invokevirtual 259, 3) := by decide +kernel
theorem dX5_mixNodes_7 : decode cX5_mixNodes 7 = .ok (.astore 5, 2) := by decide +kernel
theorem dX5_mixNodes_9 : decode cX5_mixNodes 9 = .ok (.iconst 0, 1) := by decide +kernel
theorem dX5_mixNodes_10 : decode cX5_mixNodes 10 = .ok (.istore 6, 2) := by decide +kernel
theorem dX5_mixNodes_12 : decode cX5_mixNodes 12 = .ok (.iload 6, 2) := by decide +kernel
theorem dX5_mixNodes_14 : decode cX5_mixNodes 14 = .ok (.aload_n 0, 1) := by decide +kernel
theorem dX5_mixNodes_15 : decode cX5_mixNodes 15 = .ok (.getfield 20, 3) := by decide +kernel
theorem dX5_mixNodes_18 : decode cX5_mixNodes 18 = .ok (.if_icmp .ge 33, 3) := by decide +kernel
theorem dX5_mixNodes_21 : decode cX5_mixNodes 21 = .ok (.aload 5, 2) := by decide +kernel
theorem dX5_mixNodes_23 : decode cX5_mixNodes 23 = .ok (.ifnull 28, 3) := by decide +kernel
theorem dX5_mixNodes_26 : decode cX5_mixNodes 26 = .ok (.aload_n 0, 1) := by decide +kernel
theorem dX5_mixNodes_27 : decode cX5_mixNodes 27 = .ok (.lload_n 3, 1) := by decide +kernel
theorem dX5_mixNodes_28 : decode cX5_mixNodes 28 = .ok (.aload 5, 2) := by decide +kernel
theorem dX5_mixNodes_30 : decode cX5_mixNodes 30 = .ok (.invokevirtual 262, 3) := by decide +kernel
theorem dX5_mixNodes_33 : decode cX5_mixNodes 33 = .ok (.lstore_n 3, 1) := by decide +kernel
theorem dX5_mixNodes_34 : decode cX5_mixNodes 34 = .ok (.aload_n 0, 1) := by decide +kernel
theorem dX5_mixNodes_35 : decode cX5_mixNodes 35 = .ok (.aload 5, 2) := by decide +kernel
theorem dX5_mixNodes_37 : decode cX5_mixNodes 37 = .ok (.getfield 35, 3) := by decide +kernel
theorem dX5_mixNodes_40 : decode cX5_mixNodes 40 = .ok (.invokevirtual 259, 3) := by decide +kernel
theorem dX5_mixNodes_43 : decode cX5_mixNodes 43 = .ok (.astore 5, 2) := by decide +kernel
theorem dX5_mixNodes_45 : decode cX5_mixNodes 45 = .ok (.iinc 6 1, 3) := by decide +kernel
theorem dX5_mixNodes_48 : decode cX5_mixNodes 48 = .ok (.goto (-36), 3) := by decide +kernel
theorem dX5_mixNodes_51 : decode cX5_mixNodes 51 = .ok (.lload_n 3, 1) := by decide +kernel
theorem dX5_mixNodes_52 : decode cX5_mixNodes 52 = .ok (.lreturn, 1) := by decide +kernel
theorem dX5_mixNode_0 : decode cX5_mixNode 0 = .ok (.lload_n 1, 1) := by decide +kernel
theorem dX5_mixNode_1 : decode cX5_mixNode 1 = .ok (.aload_n 3, 1) := by decide +kernel
theorem dX5_mixNode_2 : decode cX5_mixNode 2 = .ok (.getfield 35, 3) := by decide +kernel
theorem dX5_mixNode_5 : decode cX5_mixNode 5 = .ok (.invokestatic 266, 3) := by decide +kernel
theorem dX5_mixNode_8 : decode cX5_mixNode 8 = .ok (.lstore 4, 2) := by decide +kernel
theorem dX5_mixNode_10 : decode cX5_mixNode 10 = .ok (.iconst 0, 1) := by decide +kernel
theorem dX5_mixNode_11 : decode cX5_mixNode 11 = .ok (.istore 6, 2) := by decide +kernel
theorem dX5_mixNode_13 : decode cX5_mixNode 13 = .ok (.iload 6, 2) := by decide +kernel
theorem dX5_mixNode_15 : decode cX5_mixNode 15 = .ok (.bipush 13, 2) := by decide +kernel
theorem dX5_mixNode_17 : decode cX5_mixNode 17 = .ok (.if_icmp .ge 22, 3) := by decide +kernel
theorem dX5_mixNode_20 : decode cX5_mixNode 20 = .ok (.lload 4, 2) := by decide +kernel
theorem dX5_mixNode_22 : decode cX5_mixNode 22 = .ok (.aload_n 3, 1) := by decide +kernel
theorem dX5_mixNode_23 : decode cX5_mixNode 23 = .ok (.iload 6, 2) := by decide +kernel
theorem dX5_mixNode_25 : decode cX5_mixNode 25 = .ok (.invokevirtual 270, 3) := by decide +kernel
theorem dX5_mixNode_28 : decode cX5_mixNode 28 = .ok (.invokestatic 266, 3) := by decide +kernel
theorem dX5_mixNode_31 : decode cX5_mixNode 31 = .ok (.lstore 4, 2) := by decide +kernel
theorem dX5_mixNode_33 : decode cX5_mixNode 33 = .ok (.iinc 6 1, 3) := by decide +kernel
theorem dX5_mixNode_36 : decode cX5_mixNode 36 = .ok (.goto (-23), 3) := by decide +kernel
theorem dX5_mixNode_39 : decode cX5_mixNode 39 = .ok (.iconst 0, 1) := by decide +kernel
theorem dX5_mixNode_40 : decode cX5_mixNode 40 = .ok (.istore 6, 2) := by decide +kernel
theorem dX5_mixNode_42 : decode cX5_mixNode 42 = .ok (.aload_n 3, 1) := by decide +kernel
theorem dX5_mixNode_43 : decode cX5_mixNode 43 = .ok (.getfield 68, 3) := by decide +kernel
theorem dX5_mixNode_46 : decode cX5_mixNode 46 = .ok (.ifCond .ne 36, 3) := by decide +kernel
theorem dX5_mixNode_49 : decode cX5_mixNode 49 = .ok (.iload 6, 2) := by decide +kernel
theorem dX5_mixNode_51 : decode cX5_mixNode 51 = .ok (.bipush 16, 2) := by decide +kernel
theorem dX5_mixNode_53 : decode cX5_mixNode 53 = .ok (.if_icmp .ge 29, 3) := by decide +kernel
theorem dX5_mixNode_56 : decode cX5_mixNode 56 = .ok (.lload 4, 2) := by decide +kernel
theorem dX5_mixNode_58 : decode cX5_mixNode 58 = .ok (.aload_n 0, 1) := by decide +kernel
theorem dX5_mixNode_59 : decode cX5_mixNode 59 = .ok (.aload_n 3, 1) := by decide +kernel
theorem dX5_mixNode_60 : decode cX5_mixNode 60 = .ok (.iload 6, 2) := by decide +kernel
theorem dX5_mixNode_62 : decode cX5_mixNode 62 = .ok (.iconst 4, 1) := by decide +kernel
theorem dX5_mixNode_63 : decode cX5_mixNode 63 = .ok (.idiv, 1) := by decide +kernel
theorem dX5_mixNode_64 : decode cX5_mixNode 64 = .ok (.iload 6, 2) := by decide +kernel
theorem dX5_mixNode_66 : decode cX5_mixNode 66 = .ok (.iconst 4, 1) := by decide +kernel
theorem dX5_mixNode_67 : decode cX5_mixNode 67 = .ok (.irem, 1) := by decide +kernel
theorem dX5_mixNode_68 : decode cX5_mixNode 68 = .ok (.invokevirtual 273, 3) := by decide +kernel
theorem dX5_mixNode_71 : decode cX5_mixNode 71 = .ok (.invokestatic 266, 3) := by decide +kernel
theorem dX5_mixNode_74 : decode cX5_mixNode 74 = .ok (.lstore 4, 2) := by decide +kernel
theorem dX5_mixNode_76 : decode cX5_mixNode 76 = .ok (.iinc 6 1, 3) := by decide +kernel
theorem dX5_mixNode_79 : decode cX5_mixNode 79 = .ok (.goto (-37), 3) := by decide +kernel
theorem dX5_mixNode_82 : decode cX5_mixNode 82 = .ok (.lload 4, 2) := by decide +kernel
theorem dX5_mixNode_84 : decode cX5_mixNode 84 = .ok (.lreturn, 1) := by decide +kernel
theorem dX5_mixCritical_0 : decode cX5_mixCritical 0 = .ok (.lload_n 1, 1) := by decide +kernel
theorem dX5_mixCritical_1 : decode cX5_mixCritical 1 = .ok (.lstore_n 3, 1) := by decide +kernel
theorem dX5_mixCritical_2 : decode cX5_mixCritical 2 = .ok (.aload_n 0, 1) := by decide +kernel
theorem dX5_mixCritical_3 : decode cX5_mixCritical 3 = .ok (.aconst_null, 1) := by decide +kernel
theorem dX5_mixCritical_4 : decode cX5_mixCritical 4 = .ok (.invokevirtual 246, 3) := by decide +kernel
theorem dX5_mixCritical_7 : decode cX5_mixCritical 7 = .ok (.astore 5, 2) := by decide +kernel
theorem dX5_mixCritical_9 : decode cX5_mixCritical 9 = .ok (.iconst 0, 1) := by decide +kernel
theorem dX5_mixCritical_10 : decode cX5_mixCritical 10 = .ok (.istore 6, 2) := by decide +kernel
theorem dX5_mixCritical_12 : decode cX5_mixCritical 12 = .ok (.iload 6, 2) := by decide +kernel
theorem dX5_mixCritical_14 : decode cX5_mixCritical 14 = .ok (.aload_n 0, 1) := by decide +kernel
theorem dX5_mixCritical_15 : decode cX5_mixCritical 15 = .ok (.getfield 20, 3) := by decide +kernel
theorem dX5_mixCritical_18 : decode cX5_mixCritical 18 = .ok (.if_icmp .ge 32, 3) := by decide +kernel
theorem dX5_mixCritical_21 : decode cX5_mixCritical 21 = .ok (.aload 5, 2) := by decide +kernel
theorem dX5_mixCritical_23 : decode cX5_mixCritical 23 = .ok (.ifnull 27, 3) := by decide +kernel
theorem dX5_mixCritical_26 : decode cX5_mixCritical 26 = .ok (.lload_n 3, 1) := by decide +kernel
theorem dX5_mixCritical_27 : decode cX5_mixCritical 27 = .ok (.aload 5, 2) := by decide +kernel
theorem dX5_mixCritical_29 : decode cX5_mixCritical 29 = .ok (.getfield 35, 3) := by decide +kernel
theorem dX5_mixCritical_32 : decode cX5_mixCritical 32 = .ok (.invokestatic 266, 3) := by decide +kernel
theorem dX5_mixCritical_35 : decode cX5_mixCritical 35 = .ok (.lstore_n 3, 1) := by decide +kernel
theorem dX5_mixCritical_36 : decode cX5_mixCritical 36 = .ok (.aload_n 0, 1) := by decide +kernel
theorem dX5_mixCritical_37 : decode cX5_mixCritical 37 = .ok (.aload 5, 2) := by decide +kernel
theorem dX5_mixCritical_39 : decode cX5_mixCritical 39 = .ok (.invokevirtual 246, 3) := by decide +kernel
theorem dX5_mixCritical_42 : decode cX5_mixCritical 42 = .ok (.astore 5, 2) := by decide +kernel
theorem dX5_mixCritical_44 : decode cX5_mixCritical 44 = .ok (.iinc 6 1, 3) := by decide +kernel
theorem dX5_mixCritical_47 : decode cX5_mixCritical 47 = .ok (.goto (-35), 3) := by decide +kernel
theorem dX5_mixCritical_50 : decode cX5_mixCritical 50 = .ok (.lload_n 3, 1) := by decide +kernel
theorem dX5_mixCritical_51 : decode cX5_mixCritical 51 = .ok (.lreturn, 1) := by decide +kernel
theorem dX6_init_0 : decode cX6_init 0 = .ok (.aload_n 0, 1) := by decide +kernel
theorem dX6_init_1 : decode cX6_init 1 = .ok (.invokespecial 1, 3) := by decide +kernel
theorem dX6_init_4 : decode cX6_init 4 = .ok (.aload_n 0, 1) := by decide +kernel
theorem dX6_init_5 : decode cX6_init 5 = .ok (.new 7, 3) := by decide +kernel
theorem dX6_init_8 : decode cX6_init 8 = .ok (.dup, 1) := by decide +kernel
theorem dX6_init_9 : decode cX6_init 9 = .ok (.invokespecial 9, 3) := by decide +kernel
theorem dX6_init_12 : decode cX6_init 12 = .ok (.putfield 10, 3) := by decide +kernel
theorem dX6_init_15 : decode cX6_init 15 = .ok (.aload_n 0, 1) := by decide +kernel
theorem dX6_init_16 : decode cX6_init 16 = .ok (.iconst 4, 1) := by decide +kernel
theorem dX6_init_17 : decode cX6_init 17 = .ok (.anewarray 16, 3) := by decide +kernel
theorem dX6_init_20 : decode cX6_init 20 = .ok (.putfield 18, 3) := by decide +kernel
theorem dX6_init_23 : decode cX6_init 23 = .ok (.aload_n 0, 1) := by decide +kernel
theorem dX6_init_24 : decode cX6_init 24 = .ok (.iconst 0, 1) := by decide +kernel
theorem dX6_init_25 : decode cX6_init 25 = .ok (.putfield 22, 3) := by decide +kernel
theorem dX6_init_28 : decode cX6_init 28 = .ok (.aload_n 0, 1) := by decide +kernel
theorem dX6_init_29 : decode cX6_init 29 = .ok (.new 16, 3) := by decide +kernel
theorem dX6_init_32 : decode cX6_init 32 = .ok (.dup, 1) := by decide +kernel
theorem dX6_init_33 : decode cX6_init 33 = .ok (.invokespecial 26, 3) := by decide +kernel
theorem dX6_init_36 : decode cX6_init 36 = .ok (.putfield 27, 3) := by decide +kernel
theorem dX6_init_39 : decode cX6_init 39 = .ok (.iconst 0, 1) := by decide +kernel
theorem dX6_init_40 : decode cX6_init 40 = .ok (.istore_n 1, 1) := by decide +kernel
theorem dX6_init_41 : decode cX6_init 41 = .ok (.iload_n 1, 1) := by decide +kernel
theorem dX6_init_42 : decode cX6_init 42 = .ok (.aload_n 0, 1) := by decide +kernel
theorem dX6_init_43 : decode cX6_init 43 = .ok (.getfield 18, 3) := by decide +kernel
theorem dX6_init_46 : decode cX6_init 46 = .ok (.arraylength, 1) := by decide +kernel
theorem dX6_init_47 : decode cX6_init 47 = .ok (.if_icmp .ge 22, 3) := by decide +kernel
theorem dX6_init_50 : decode cX6_init 50 = .ok (.aload_n 0, 1) := by decide +kernel
theorem dX6_init_51 : decode cX6_init 51 = .ok (.getfield 18, 3) := by decide +kernel
theorem dX6_init_54 : decode cX6_init 54 = .ok (.iload_n 1, 1) := by decide +kernel
theorem dX6_init_55 : decode cX6_init 55 = .ok (.new 16, 3) := by decide +kernel
theorem dX6_init_58 : decode cX6_init 58 = .ok (.dup, 1) := by decide +kernel
theorem dX6_init_59 : decode cX6_init 59 = .ok (.invokespecial 26, 3) := by decide +kernel
theorem dX6_init_62 : decode cX6_init 62 = .ok (.aastore, 1) := by decide +kernel
theorem dX6_init_63 : decode cX6_init 63 = .ok (.iinc 1 1, 3) := by decide +kernel
theorem dX6_init_66 : decode cX6_init 66 = .ok (.goto (-25), 3) := by decide +kernel
theorem dX6_init_69 : decode cX6_init 69 = .ok (.return_, 1) := by decide +kernel
theorem dX6_addGroup_0 : decode cX6_addGroup 0 = .ok (.aload_n 0, 1) := by decide +kernel
theorem dX6_addGroup_1 : decode cX6_addGroup 1 = .ok (.getstatic 31, 3) := by decide +kernel
theorem dX6_addGroup_4 : decode cX6_addGroup 4 = .ok (.iload_n 1, 1) := by decide +kernel
theorem dX6_addGroup_5 : decode cX6_addGroup 5 = .ok (.iload_n 2, 1) := by decide +kernel
theorem dX6_addGroup_6 : decode cX6_addGroup 6 = .ok (.iconst 0, 1) := by decide +kernel
theorem dX6_addGroup_7 : decode cX6_addGroup 7 = .ok (.invokevirtual 37, 3) := by decide +kernel
theorem dX6_addGroup_10 : decode cX6_addGroup 10 = .ok (.ireturn, 1) := by decide +kernel
theorem dX6_addTask_0 : decode cX6_addTask 0 = .ok (.aload_n 0, 1) := by decide +kernel
theorem dX6_addTask_1 : decode cX6_addTask 1 = .ok (.getstatic 41, 3) := by decide +kernel
theorem dX6_addTask_4 : decode cX6_addTask 4 = .ok (.iload_n 1, 1) := by decide +kernel
theorem dX6_addTask_5 : decode cX6_addTask 5 = .ok (.iload_n 2, 1) := by decide +kernel
theorem dX6_addTask_6 : decode cX6_addTask 6 = .ok (.iload_n 3, 1) := by decide +kernel
theorem dX6_addTask_7 : decode cX6_addTask 7 = .ok (.invokevirtual 37, 3) := by decide +kernel
theorem dX6_addTask_10 : decode cX6_addTask 10 = .ok (.ireturn, 1) := by decide +kernel
theorem dX6_move_0 : decode cX6_move 0 = .ok (.aload_n 0, 1) := by decide +kernel
theorem dX6_move_1 : decode cX6_move 1 = .ok (.getstatic 44, 3) := by decide +kernel
theorem dX6_move_4 : decode cX6_move 4 = .ok (.iload_n 1, 1) := by decide +kernel
theorem dX6_move_5 : decode cX6_move 5 = .ok (.iload_n 2, 1) := by decide +kernel
theorem dX6_move_6 : decode cX6_move 6 = .ok (.iload_n 3, 1) := by decide +kernel
theorem dX6_move_7 : decode cX6_move 7 = .ok (.invokevirtual 37, 3) := by decide +kernel
theorem dX6_move_10 : decode cX6_move 10 = .ok (.ireturn, 1) := by decide +kernel
theorem dX6_remove_0 : decode cX6_remove 0 = .ok (.aload_n 0, 1) := by decide +kernel
theorem dX6_remove_1 : decode cX6_remove 1 = .ok (.getstatic 47, 3) := by decide +kernel
theorem dX6_remove_4 : decode cX6_remove 4 = .ok (.iload_n 1, 1) := by decide +kernel
theorem dX6_remove_5 : decode cX6_remove 5 = .ok (.iconst 0, 1) := by decide +kernel
theorem dX6_remove_6 : decode cX6_remove 6 = .ok (.iconst 0, 1) := by decide +kernel
theorem dX6_remove_7 : decode cX6_remove 7 = .ok (.invokevirtual 37, 3) := by decide +kernel
theorem dX6_remove_10 : decode cX6_remove 10 = .ok (.ireturn, 1) := by decide +kernel
theorem dX6_setDuration_0 : decode cX6_setDuration 0 = .ok (.aload_n 0, 1) := by decide +kernel
theorem dX6_setDuration_1 : decode cX6_setDuration 1 = .ok (.getstatic 50, 3) := by decide +kernel
theorem dX6_setDuration_4 : decode cX6_setDuration 4 = .ok (.iload_n 1, 1) := by decide +kernel
theorem dX6_setDuration_5 : decode cX6_setDuration 5 = .ok (.iload_n 2, 1) := by decide +kernel
theorem dX6_setDuration_6 : decode cX6_setDuration 6 = .ok (.iconst 0, 1) := by decide +kernel
theorem dX6_setDuration_7 : decode cX6_setDuration 7 = .ok (.invokevirtual 37, 3) := by decide +kernel
theorem dX6_setDuration_10 : decode cX6_setDuration 10 = .ok (.ireturn, 1) := by decide +kernel
theorem dX6_borrow_0 : decode cX6_borrow 0 = .ok (.aload_n 0, 1) := by decide +kernel
theorem dX6_borrow_1 : decode cX6_borrow 1 = .ok (.getstatic 53, 3) := by decide +kernel
theorem dX6_borrow_4 : decode cX6_borrow 4 = .ok (.iload_n 1, 1) := by decide +kernel
theorem dX6_borrow_5 : decode cX6_borrow 5 = .ok (.iload_n 2, 1) := by decide +kernel
theorem dX6_borrow_6 : decode cX6_borrow 6 = .ok (.iconst 0, 1) := by decide +kernel
theorem dX6_borrow_7 : decode cX6_borrow 7 = .ok (.invokevirtual 37, 3) := by decide +kernel
theorem dX6_borrow_10 : decode cX6_borrow 10 = .ok (.ireturn, 1) := by decide +kernel
theorem dX6_giveBack_0 : decode cX6_giveBack 0 = .ok (.aload_n 0, 1) := by decide +kernel
theorem dX6_giveBack_1 : decode cX6_giveBack 1 = .ok (.getstatic 56, 3) := by decide +kernel
theorem dX6_giveBack_4 : decode cX6_giveBack 4 = .ok (.iload_n 1, 1) := by decide +kernel
theorem dX6_giveBack_5 : decode cX6_giveBack 5 = .ok (.iload_n 2, 1) := by decide +kernel
theorem dX6_giveBack_6 : decode cX6_giveBack 6 = .ok (.iconst 0, 1) := by decide +kernel
theorem dX6_giveBack_7 : decode cX6_giveBack 7 = .ok (.invokevirtual 37, 3) := by decide +kernel
theorem dX6_giveBack_10 : decode cX6_giveBack 10 = .ok (.ireturn, 1) := by decide +kernel
theorem dX6_setDeadline_0 : decode cX6_setDeadline 0 = .ok (.aload_n 0, 1) := by decide +kernel
theorem dX6_setDeadline_1 : decode cX6_setDeadline 1 = .ok (.getstatic 59, 3) := by decide +kernel
theorem dX6_setDeadline_4 : decode cX6_setDeadline 4 = .ok (.iload_n 1, 1) := by decide +kernel
theorem dX6_setDeadline_5 : decode cX6_setDeadline 5 = .ok (.iconst 0, 1) := by decide +kernel
theorem dX6_setDeadline_6 : decode cX6_setDeadline 6 = .ok (.iconst 0, 1) := by decide +kernel
theorem dX6_setDeadline_7 : decode cX6_setDeadline 7 = .ok (.invokevirtual 37, 3) := by decide +kernel
theorem dX6_setDeadline_10 : decode cX6_setDeadline 10 = .ok (.ireturn, 1) := by decide +kernel
theorem dX6_node_0 : decode cX6_node 0 = .ok (.aload_n 0, 1) := by decide +kernel
theorem dX6_node_1 : decode cX6_node 1 = .ok (.iload_n 1, 1) := by decide +kernel
theorem dX6_node_2 : decode cX6_node 2 = .ok (.invokevirtual 62, 3) := by decide +kernel
theorem dX6_node_5 : decode cX6_node 5 = .ok (.astore_n 3, 1) := by decide +kernel
theorem dX6_node_6 : decode cX6_node 6 = .ok (.iload_n 2, 1) := by decide +kernel
theorem dX6_node_7 : decode cX6_node 7 = .ok (.iconst 0, 1) := by decide +kernel
theorem dX6_node_8 : decode cX6_node 8 = .ok (.bipush 12, 2) := by decide +kernel
theorem dX6_node_10 : decode cX6_node 10 = .ok (.invokestatic 66, 3) := by decide +kernel
theorem dX6_node_13 : decode cX6_node 13 = .ok (.aload_n 3, 1) := by decide +kernel
theorem dX6_node_14 : decode cX6_node 14 = .ok (.iload_n 2, 1) := by decide +kernel
theorem dX6_node_15 : decode cX6_node 15 = .ok (.invokevirtual 70, 3) := by decide +kernel
theorem dX6_node_18 : decode cX6_node 18 = .ok (.ireturn, 1) := by decide +kernel
theorem dX6_row_0 : decode cX6_row 0 = .ok (.aload_n 0, 1) := by decide +kernel
theorem dX6_row_1 : decode cX6_row 1 = .ok (.iload_n 1, 1) := by decide +kernel
theorem dX6_row_2 : decode cX6_row 2 = .ok (.invokevirtual 62, 3) := by decide +kernel
theorem dX6_row_5 : decode cX6_row 5 = .ok (.astore 4, 2) := by decide +kernel
theorem dX6_row_7 : decode cX6_row 7 = .ok (.iload_n 2, 1) := by decide +kernel
theorem dX6_row_8 : decode cX6_row 8 = .ok (.iconst 0, 1) := by decide +kernel
theorem dX6_row_9 : decode cX6_row 9 = .ok (.iconst 3, 1) := by decide +kernel
theorem dX6_row_10 : decode cX6_row 10 = .ok (.invokestatic 66, 3) := by decide +kernel
theorem dX6_row_13 : decode cX6_row 13 = .ok (.iload_n 3, 1) := by decide +kernel
theorem dX6_row_14 : decode cX6_row 14 = .ok (.iconst 0, 1) := by decide +kernel
theorem dX6_row_15 : decode cX6_row 15 = .ok (.iconst 3, 1) := by decide +kernel
theorem dX6_row_16 : decode cX6_row 16 = .ok (.invokestatic 66, 3) := by decide +kernel
theorem dX6_row_19 : decode cX6_row 19 = .ok (.aload 4, 2) := by decide +kernel
theorem dX6_row_21 : decode cX6_row 21 = .ok (.invokestatic 76, 3) := by decide +kernel
theorem dX6_row_24 : decode cX6_row 24 = .ok (.aload_n 0, 1) := by decide +kernel
theorem dX6_row_25 : decode cX6_row 25 = .ok (.getfield 27, 3) := by decide +kernel
theorem dX6_row_28 : decode cX6_row 28 = .ok (.aload 4, 2) := by decide +kernel
theorem dX6_row_30 : decode cX6_row 30 = .ok (.iload_n 2, 1) := by decide +kernel
theorem dX6_row_31 : decode cX6_row 31 = .ok (.iload_n 3, 1) := by decide +kernel
theorem dX6_row_32 : decode cX6_row 32 = .ok (.invokevirtual 80, 3) := by decide +kernel
theorem dX6_row_35 : decode cX6_row 35 = .ok (.ireturn, 1) := by decide +kernel
theorem dX6_child_0 : decode cX6_child 0 = .ok (.aload_n 0, 1) := by decide +kernel
theorem dX6_child_1 : decode cX6_child 1 = .ok (.iload_n 1, 1) := by decide +kernel
theorem dX6_child_2 : decode cX6_child 2 = .ok (.invokevirtual 62, 3) := by decide +kernel
theorem dX6_child_5 : decode cX6_child 5 = .ok (.astore 4, 2) := by decide +kernel
theorem dX6_child_7 : decode cX6_child 7 = .ok (.iload_n 2, 1) := by decide +kernel
theorem dX6_child_8 : decode cX6_child 8 = .ok (.iconst 0, 1) := by decide +kernel
theorem dX6_child_9 : decode cX6_child 9 = .ok (.iconst 3, 1) := by decide +kernel
theorem dX6_child_10 : decode cX6_child 10 = .ok (.invokestatic 66, 3) := by decide +kernel
theorem dX6_child_13 : decode cX6_child 13 = .ok (.iload_n 3, 1) := by decide +kernel
theorem dX6_child_14 : decode cX6_child 14 = .ok (.invokestatic 84, 3) := by decide +kernel
theorem dX6_child_17 : decode cX6_child 17 = .ok (.aload 4, 2) := by decide +kernel
theorem dX6_child_19 : decode cX6_child 19 = .ok (.invokestatic 76, 3) := by decide +kernel
theorem dX6_child_22 : decode cX6_child 22 = .ok (.aload_n 0, 1) := by decide +kernel
theorem dX6_child_23 : decode cX6_child 23 = .ok (.getfield 27, 3) := by decide +kernel
theorem dX6_child_26 : decode cX6_child 26 = .ok (.aload 4, 2) := by decide +kernel
theorem dX6_child_28 : decode cX6_child 28 = .ok (.iload_n 2, 1) := by decide +kernel
theorem dX6_child_29 : decode cX6_child 29 = .ok (.iload_n 3, 1) := by decide +kernel
theorem dX6_child_30 : decode cX6_child 30 = .ok (.invokevirtual 88, 3) := by decide +kernel
theorem dX6_child_33 : decode cX6_child 33 = .ok (.ireturn, 1) := by decide +kernel
theorem dX6_critical_0 : decode cX6_critical 0 = .ok (.iload_n 1, 1) := by decide +kernel
theorem dX6_critical_1 : decode cX6_critical 1 = .ok (.invokestatic 84, 3) := by decide +kernel
theorem dX6_critical_4 : decode cX6_critical 4 = .ok (.aload_n 0, 1) := by decide +kernel
theorem dX6_critical_5 : decode cX6_critical 5 = .ok (.getfield 27, 3) := by decide +kernel
theorem dX6_critical_8 : decode cX6_critical 8 = .ok (.iload_n 1, 1) := by decide +kernel
theorem dX6_critical_9 : decode cX6_critical 9 = .ok (.invokevirtual 91, 3) := by decide +kernel
theorem dX6_critical_12 : decode cX6_critical 12 = .ok (.ireturn, 1) := by decide +kernel
theorem dX6_running_0 : decode cX6_running 0 = .ok (.iload_n 1, 1) := by decide +kernel
theorem dX6_running_1 : decode cX6_running 1 = .ok (.invokestatic 84, 3) := by decide +kernel
theorem dX6_running_4 : decode cX6_running 4 = .ok (.aload_n 0, 1) := by decide +kernel
theorem dX6_running_5 : decode cX6_running 5 = .ok (.getfield 27, 3) := by decide +kernel
theorem dX6_running_8 : decode cX6_running 8 = .ok (.iload_n 1, 1) := by decide +kernel
theorem dX6_running_9 : decode cX6_running 9 = .ok (.invokevirtual 94, 3) := by decide +kernel
theorem dX6_running_12 : decode cX6_running 12 = .ok (.ireturn, 1) := by decide +kernel
theorem dX6_whole_0 : decode cX6_whole 0 = .ok (.iload_n 1, 1) := by decide +kernel
theorem dX6_whole_1 : decode cX6_whole 1 = .ok (.iconst 0, 1) := by decide +kernel
theorem dX6_whole_2 : decode cX6_whole 2 = .ok (.bipush 11, 2) := by decide +kernel
theorem dX6_whole_4 : decode cX6_whole 4 = .ok (.invokestatic 66, 3) := by decide +kernel
theorem dX6_whole_7 : decode cX6_whole 7 = .ok (.aload_n 0, 1) := by decide +kernel
theorem dX6_whole_8 : decode cX6_whole 8 = .ok (.iload_n 1, 1) := by decide +kernel
theorem dX6_whole_9 : decode cX6_whole 9 = .ok (.invokevirtual 97, 3) := by decide +kernel
theorem dX6_whole_12 : decode cX6_whole 12 = .ok (.ireturn, 1) := by decide +kernel
theorem dX6_endWith_0 : decode cX6_endWith 0 = .ok (.aload_n 0, 1) := by decide +kernel
theorem dX6_endWith_1 : decode cX6_endWith 1 = .ok (.iload_n 1, 1) := by decide +kernel
theorem dX6_endWith_2 : decode cX6_endWith 2 = .ok (.invokevirtual 62, 3) := by decide +kernel
theorem dX6_endWith_5 : decode cX6_endWith 5 = .ok (.astore_n 3, 1) := by decide +kernel
theorem dX6_endWith_6 : decode cX6_endWith 6 = .ok (.iload_n 2, 1) := by decide +kernel
theorem dX6_endWith_7 : decode cX6_endWith 7 = .ok (.iconst 0, 1) := by decide +kernel
theorem dX6_endWith_8 : decode cX6_endWith 8 = .ok (.bipush 60, 2) := by decide +kernel
theorem dX6_endWith_10 : decode cX6_endWith 10 = .ok (.invokestatic 66, 3) := by decide +kernel
theorem dX6_endWith_13 : decode cX6_endWith 13 = .ok (.aload_n 3, 1) := by decide +kernel
theorem dX6_endWith_14 : decode cX6_endWith 14 = .ok (.invokestatic 100, 3) := by decide +kernel
theorem dX6_endWith_17 : decode cX6_endWith 17 = .ok (.aload_n 3, 1) := by decide +kernel
theorem dX6_endWith_18 : decode cX6_endWith 18 = .ok (.aload_n 3, 1) := by decide +kernel
theorem dX6_endWith_19 : decode cX6_endWith 19 = .ok (.iload_n 2, 1) := by decide +kernel
theorem dX6_endWith_20 : decode cX6_endWith 20 = .ok (.invokevirtual 103, 3) := by decide +kernel
theorem dX6_endWith_23 : decode cX6_endWith 23 = .ok (.invokevirtual 106, 3) := by decide +kernel
theorem dX6_endWith_26 : decode cX6_endWith 26 = .ok (.ireturn, 1) := by decide +kernel
theorem dX6_growsTo_0 : decode cX6_growsTo 0 = .ok (.aload_n 0, 1) := by decide +kernel
theorem dX6_growsTo_1 : decode cX6_growsTo 1 = .ok (.iload_n 1, 1) := by decide +kernel
theorem dX6_growsTo_2 : decode cX6_growsTo 2 = .ok (.invokevirtual 62, 3) := by decide +kernel
theorem dX6_growsTo_5 : decode cX6_growsTo 5 = .ok (.astore_n 2, 1) := by decide +kernel
theorem dX6_growsTo_6 : decode cX6_growsTo 6 = .ok (.aload_n 2, 1) := by decide +kernel
theorem dX6_growsTo_7 : decode cX6_growsTo 7 = .ok (.invokestatic 100, 3) := by decide +kernel
theorem dX6_growsTo_10 : decode cX6_growsTo 10 = .ok (.aload_n 0, 1) := by decide +kernel
theorem dX6_growsTo_11 : decode cX6_growsTo 11 = .ok (.getfield 27, 3) := by decide +kernel
theorem dX6_growsTo_14 : decode cX6_growsTo 14 = .ok (.aload_n 2, 1) := by decide +kernel
theorem dX6_growsTo_15 : decode cX6_growsTo 15 = .ok (.invokevirtual 109, 3) := by decide +kernel
theorem dX6_growsTo_18 : decode cX6_growsTo 18 = .ok (.ireturn, 1) := by decide +kernel
theorem dX6_bestCut_0 : decode cX6_bestCut 0 = .ok (.aload_n 0, 1) := by decide +kernel
theorem dX6_bestCut_1 : decode cX6_bestCut 1 = .ok (.getfield 27, 3) := by decide +kernel
theorem dX6_bestCut_4 : decode cX6_bestCut 4 = .ok (.invokevirtual 113, 3) := by decide +kernel
theorem dX6_bestCut_7 : decode cX6_bestCut 7 = .ok (.ireturn, 1) := by decide +kernel
theorem dX6_slackIf_0 : decode cX6_slackIf 0 = .ok (.aload_n 0, 1) := by decide +kernel
theorem dX6_slackIf_1 : decode cX6_slackIf 1 = .ok (.iload_n 1, 1) := by decide +kernel
theorem dX6_slackIf_2 : decode cX6_slackIf 2 = .ok (.invokevirtual 62, 3) := by decide +kernel
theorem dX6_slackIf_5 : decode cX6_slackIf 5 = .ok (.astore_n 3, 1) := by decide +kernel
theorem dX6_slackIf_6 : decode cX6_slackIf 6 = .ok (.aload_n 0, 1) := by decide +kernel
theorem dX6_slackIf_7 : decode cX6_slackIf 7 = .ok (.iload_n 2, 1) := by decide +kernel
theorem dX6_slackIf_8 : decode cX6_slackIf 8 = .ok (.invokevirtual 62, 3) := by decide +kernel
theorem dX6_slackIf_11 : decode cX6_slackIf 11 = .ok (.astore 4, 2) := by decide +kernel
theorem dX6_slackIf_13 : decode cX6_slackIf 13 = .ok (.aload 4, 2) := by decide +kernel
theorem dX6_slackIf_15 : decode cX6_slackIf 15 = .ok (.invokestatic 100, 3) := by decide +kernel
theorem dX6_slackIf_18 : decode cX6_slackIf 18 = .ok (.aload_n 0, 1) := by decide +kernel
theorem dX6_slackIf_19 : decode cX6_slackIf 19 = .ok (.getfield 27, 3) := by decide +kernel
theorem dX6_slackIf_22 : decode cX6_slackIf 22 = .ok (.aload_n 3, 1) := by decide +kernel
theorem dX6_slackIf_23 : decode cX6_slackIf 23 = .ok (.aload 4, 2) := by decide +kernel
theorem dX6_slackIf_25 : decode cX6_slackIf 25 = .ok (.invokevirtual 117, 3) := by decide +kernel
theorem dX6_slackIf_28 : decode cX6_slackIf 28 = .ok (.ireturn, 1) := by decide +kernel
theorem dX6_reason_0 : decode cX6_reason 0 = .ok (.aload_n 0, 1) := by decide +kernel
theorem dX6_reason_1 : decode cX6_reason 1 = .ok (.iload_n 1, 1) := by decide +kernel
theorem dX6_reason_2 : decode cX6_reason 2 = .ok (.invokevirtual 62, 3) := by decide +kernel
theorem dX6_reason_5 : decode cX6_reason 5 = .ok (.aload_n 0, 1) := by decide +kernel
theorem dX6_reason_6 : decode cX6_reason 6 = .ok (.iload_n 2, 1) := by decide +kernel
theorem dX6_reason_7 : decode cX6_reason 7 = .ok (.invokevirtual 62, 3) := by decide +kernel
theorem dX6_reason_10 : decode cX6_reason 10 = .ok (.invokevirtual 121, 3) := by decide +kernel
theorem dX6_reason_13 : decode cX6_reason 13 = .ok (.ireturn, 1) := by decide +kernel
theorem dX6_type_0 : decode cX6_type 0 = .ok (.iload_n 1, 1) := by decide +kernel
theorem dX6_type_1 : decode cX6_type 1 = .ok (.iconst 0, 1) := by decide +kernel
theorem dX6_type_2 : decode cX6_type 2 = .ok (.bipush 127, 2) := by decide +kernel
theorem dX6_type_4 : decode cX6_type 4 = .ok (.invokestatic 66, 3) := by decide +kernel
theorem dX6_type_7 : decode cX6_type 7 = .ok (.aload_n 0, 1) := by decide +kernel
theorem dX6_type_8 : decode cX6_type 8 = .ok (.getfield 10, 3) := by decide +kernel
theorem dX6_type_11 : decode cX6_type 11 = .ok (.iload_n 1, 1) := by decide +kernel
theorem dX6_type_12 : decode cX6_type 12 = .ok (.invokevirtual 124, 3) := by decide +kernel
theorem dX6_type_15 : decode cX6_type 15 = .ok (.ifCond .ne 13, 3) := by decide +kernel
theorem dX6_type_18 : decode cX6_type 18 = .ok (.new 128, 3) := by decide +kernel
theorem dX6_type_21 : decode cX6_type 21 = .ok (.dup, 1) := by decide +kernel
theorem dX6_type_22 : decode cX6_type 22 = .ok (.ldc 130, 2) := by decide +kernel
theorem dX6_type_24 : decode cX6_type 24 = .ok (.invokespecial 132, 3) := by decide +kernel
theorem dX6_type_27 : decode cX6_type 27 = .ok (.athrow, 1) := by decide +kernel
theorem dX6_type_28 : decode cX6_type 28 = .ok (.aload_n 0, 1) := by decide +kernel
theorem dX6_type_29 : decode cX6_type 29 = .ok (.getfield 10, 3) := by decide +kernel
theorem dX6_type_32 : decode cX6_type 32 = .ok (.getfield 135, 3) := by decide +kernel
theorem dX6_type_35 : decode cX6_type 35 = .ok (.ireturn, 1) := by decide +kernel
theorem dX6_clearCommands_0 : decode cX6_clearCommands 0 = .ok (.aload_n 0, 1) := by decide +kernel
theorem dX6_clearCommands_1 : decode cX6_clearCommands 1 = .ok (.getfield 10, 3) := by decide +kernel
theorem dX6_clearCommands_4 : decode cX6_clearCommands 4 = .ok (.getfield 135, 3) := by decide +kernel
theorem dX6_clearCommands_7 : decode cX6_clearCommands 7 = .ok (.istore_n 1, 1) := by decide +kernel
theorem dX6_clearCommands_8 : decode cX6_clearCommands 8 = .ok (.aload_n 0, 1) := by decide +kernel
theorem dX6_clearCommands_9 : decode cX6_clearCommands 9 = .ok (.getfield 10, 3) := by decide +kernel
theorem dX6_clearCommands_12 : decode cX6_clearCommands 12 = .ok (.iconst 0, 1) := by decide +kernel
theorem dX6_clearCommands_13 : decode cX6_clearCommands 13 = .ok (.putfield 135, 3) := by decide +kernel
theorem dX6_clearCommands_16 : decode cX6_clearCommands 16 = .ok (.iload_n 1, 1) := by decide +kernel
theorem dX6_clearCommands_17 : decode cX6_clearCommands 17 = .ok (.ireturn, 1) := by decide +kernel
theorem dX6_runCommands_0 : decode cX6_runCommands 0 = .ok (.aload_n 0, 1) := by decide +kernel
theorem dX6_runCommands_1 : decode cX6_runCommands 1 = .ok (.getfield 10, 3) := by decide +kernel
theorem dX6_runCommands_4 : decode cX6_runCommands 4 = .ok (.invokevirtual 138, 3) := by decide +kernel
theorem dX6_runCommands_7 : decode cX6_runCommands 7 = .ok (.istore_n 1, 1) := by decide +kernel
theorem dX6_runCommands_8 : decode cX6_runCommands 8 = .ok (.iload_n 1, 1) := by decide +kernel
theorem dX6_runCommands_9 : decode cX6_runCommands 9 = .ok (.iconst (-1), 1) := by decide +kernel
theorem dX6_runCommands_10 : decode cX6_runCommands 10 = .ok (.if_icmp .eq 8, 3) := by decide +kernel
theorem dX6_runCommands_13 : decode cX6_runCommands 13 = .ok (.bipush (-10), 2) := by decide +kernel
theorem dX6_runCommands_15 : decode cX6_runCommands 15 = .ok (.iload_n 1, 1) := by decide +kernel
theorem dX6_runCommands_16 : decode cX6_runCommands 16 = .ok (.isub, 1) := by decide +kernel
theorem dX6_runCommands_17 : decode cX6_runCommands 17 = .ok (.ireturn, 1) := by decide +kernel
theorem dX6_runCommands_18 : decode cX6_runCommands 18 = .ok (.aload_n 0, 1) := by decide +kernel
theorem dX6_runCommands_19 : decode cX6_runCommands 19 = .ok (.invokevirtual 141, 3) := by decide +kernel
theorem dX6_runCommands_22 : decode cX6_runCommands 22 = .ok (.aload_n 0, 1) := by decide +kernel
theorem dX6_runCommands_23 : decode cX6_runCommands 23 = .ok (.invokevirtual 144, 3) := by decide +kernel
theorem dX6_runCommands_26 : decode cX6_runCommands 26 = .ok (.ireturn, 1) := by decide +kernel
theorem dX6_undo_0 : decode cX6_undo 0 = .ok (.aload_n 0, 1) := by decide +kernel
theorem dX6_undo_1 : decode cX6_undo 1 = .ok (.getfield 22, 3) := by decide +kernel
theorem dX6_undo_4 : decode cX6_undo 4 = .ok (.iconst 1, 1) := by decide +kernel
theorem dX6_undo_5 : decode cX6_undo 5 = .ok (.isub, 1) := by decide +kernel
theorem dX6_undo_6 : decode cX6_undo 6 = .ok (.istore_n 1, 1) := by decide +kernel
theorem dX6_undo_7 : decode cX6_undo 7 = .ok (.iload_n 1, 1) := by decide +kernel
theorem dX6_undo_8 : decode cX6_undo 8 = .ok (.ifCond .lt 12, 3) := by decide +kernel
theorem dX6_undo_11 : decode cX6_undo 11 = .ok (.iload_n 1, 1) := by decide +kernel
theorem dX6_undo_12 : decode cX6_undo 12 = .ok (.aload_n 0, 1) := by decide +kernel
theorem dX6_undo_13 : decode cX6_undo 13 = .ok (.getfield 18, 3) := by decide +kernel
theorem dX6_undo_16 : decode cX6_undo 16 = .ok (.arraylength, 1) := by decide +kernel
theorem dX6_undo_17 : decode cX6_undo 17 = .ok (.if_icmp .lt 13, 3) := by decide +kernel
theorem dX6_undo_20 : decode cX6_undo 20 = .ok (.new 128, 3) := by decide +kernel
theorem dX6_undo_23 : decode cX6_undo 23 = .ok (.dup, 1) := by decide +kernel
theorem dX6_undo_24 : decode cX6_undo 24 = .ok (.ldc 147, 2) := by decide +kernel
theorem dX6_undo_26 : decode cX6_undo 26 = .ok (.invokespecial 132, 3) := by decide +kernel
theorem dX6_undo_29 : decode cX6_undo 29 = .ok (.athrow, 1) := by decide +kernel
theorem dX6_undo_30 : decode cX6_undo 30 = .ok (.aload_n 0, 1) := by decide +kernel
theorem dX6_undo_31 : decode cX6_undo 31 = .ok (.getfield 18, 3) := by decide +kernel
theorem dX6_undo_34 : decode cX6_undo 34 = .ok (.iload_n 1, 1) := by decide +kernel
theorem dX6_undo_35 : decode cX6_undo 35 = .ok (.aaload, 1) := by decide +kernel
theorem dX6_undo_36 : decode cX6_undo 36 = .ok (.astore_n 2, 1) := by decide +kernel
theorem dX6_undo_37 : decode cX6_undo 37 = .ok (.aload_n 0, 1) := by decide +kernel
theorem dX6_undo_38 : decode cX6_undo 38 = .ok (.getfield 18, 3) := by decide +kernel
theorem dX6_undo_41 : decode cX6_undo 41 = .ok (.iload_n 1, 1) := by decide +kernel
theorem dX6_undo_42 : decode cX6_undo 42 = .ok (.aload_n 0, 1) := by decide +kernel
theorem dX6_undo_43 : decode cX6_undo 43 = .ok (.getfield 27, 3) := by decide +kernel
theorem dX6_undo_46 : decode cX6_undo 46 = .ok (.aastore, 1) := by decide +kernel
theorem dX6_undo_47 : decode cX6_undo 47 = .ok (.aload_n 0, 1) := by decide +kernel
theorem dX6_undo_48 : decode cX6_undo 48 = .ok (.aload_n 2, 1) := by decide +kernel
theorem dX6_undo_49 : decode cX6_undo 49 = .ok (.putfield 27, 3) := by decide +kernel
theorem dX6_undo_52 : decode cX6_undo 52 = .ok (.aload_n 0, 1) := by decide +kernel
theorem dX6_undo_53 : decode cX6_undo 53 = .ok (.iload_n 1, 1) := by decide +kernel
theorem dX6_undo_54 : decode cX6_undo 54 = .ok (.putfield 22, 3) := by decide +kernel
theorem dX6_undo_57 : decode cX6_undo 57 = .ok (.aload_n 0, 1) := by decide +kernel
theorem dX6_undo_58 : decode cX6_undo 58 = .ok (.getfield 27, 3) := by decide +kernel
theorem dX6_undo_61 : decode cX6_undo 61 = .ok (.invokevirtual 149, 3) := by decide +kernel
theorem dX6_undo_64 : decode cX6_undo 64 = .ok (.aload_n 0, 1) := by decide +kernel
theorem dX6_undo_65 : decode cX6_undo 65 = .ok (.getfield 22, 3) := by decide +kernel
theorem dX6_undo_68 : decode cX6_undo 68 = .ok (.ireturn, 1) := by decide +kernel
theorem dX6_digest_0 : decode cX6_digest 0 = .ok (.ldc2_w 152, 3) := by decide +kernel
theorem dX6_digest_3 : decode cX6_digest 3 = .ok (.aload_n 0, 1) := by decide +kernel
theorem dX6_digest_4 : decode cX6_digest 4 = .ok (.getfield 22, 3) := by decide +kernel
theorem dX6_digest_7 : decode cX6_digest 7 = .ok (.invokestatic 154, 3) := by decide +kernel
theorem dX6_digest_10 : decode cX6_digest 10 = .ok (.lstore_n 1, 1) := by decide +kernel
theorem dX6_digest_11 : decode cX6_digest 11 = .ok (.iconst 0, 1) := by decide +kernel
theorem dX6_digest_12 : decode cX6_digest 12 = .ok (.istore_n 3, 1) := by decide +kernel
theorem dX6_digest_13 : decode cX6_digest 13 = .ok (.iload_n 3, 1) := by decide +kernel
theorem dX6_digest_14 : decode cX6_digest 14 = .ok (.bipush 12, 2) := by decide +kernel
theorem dX6_digest_16 : decode cX6_digest 16 = .ok (.if_icmp .ge 19, 3) := by decide +kernel
theorem dX6_digest_19 : decode cX6_digest 19 = .ok (.lload_n 1, 1) := by decide +kernel
theorem dX6_digest_20 : decode cX6_digest 20 = .ok (.aload_n 0, 1) := by decide +kernel
theorem dX6_digest_21 : decode cX6_digest 21 = .ok (.iload_n 3, 1) := by decide +kernel
theorem dX6_digest_22 : decode cX6_digest 22 = .ok (.invokevirtual 97, 3) := by decide +kernel
theorem dX6_digest_25 : decode cX6_digest 25 = .ok (.invokestatic 154, 3) := by decide +kernel
theorem dX6_digest_28 : decode cX6_digest 28 = .ok (.lstore_n 1, 1) := by decide +kernel
theorem dX6_digest_29 : decode cX6_digest 29 = .ok (.iinc 3 1, 3) := by decide +kernel
theorem dX6_digest_32 : decode cX6_digest 32 = .ok (.goto (-19), 3) := by decide +kernel
theorem dX6_digest_35 : decode cX6_digest 35 = .ok (.aload_n 0, 1) := by decide +kernel
theorem dX6_digest_36 : decode cX6_digest 36 = .ok (.getfield 27, 3) := by decide +kernel
theorem dX6_digest_39 : decode cX6_digest 39 = .ok (.lload_n 1, 1) := by decide +kernel
theorem dX6_digest_40 : decode cX6_digest 40 = .ok (.invokevirtual 158, 3) := by decide +kernel
theorem dX6_digest_43 : decode cX6_digest 43 = .ok (.lstore_n 1, 1) := by decide +kernel
theorem dX6_digest_44 : decode cX6_digest 44 = .ok (.aload_n 0, 1) := by decide +kernel
theorem dX6_digest_45 : decode cX6_digest 45 = .ok (.getfield 27, 3) := by decide +kernel
theorem dX6_digest_48 : decode cX6_digest 48 = .ok (.lload_n 1, 1) := by decide +kernel
theorem dX6_digest_49 : decode cX6_digest 49 = .ok (.invokevirtual 162, 3) := by decide +kernel
theorem dX6_digest_52 : decode cX6_digest 52 = .ok (.lstore_n 1, 1) := by decide +kernel
theorem dX6_digest_53 : decode cX6_digest 53 = .ok (.lload_n 1, 1) := by decide +kernel
theorem dX6_digest_54 : decode cX6_digest 54 = .ok (.aload_n 0, 1) := by decide +kernel
theorem dX6_digest_55 : decode cX6_digest 55 = .ok (.getfield 27, 3) := by decide +kernel
theorem dX6_digest_58 : decode cX6_digest 58 = .ok (.invokevirtual 113, 3) := by decide +kernel
theorem dX6_digest_61 : decode cX6_digest 61 = .ok (.invokestatic 154, 3) := by decide +kernel
theorem dX6_digest_64 : decode cX6_digest 64 = .ok (.lreturn, 1) := by decide +kernel
theorem dX6_mix_0 : decode cX6_mix 0 = .ok (.ldc2_w 165, 3) := by decide +kernel
theorem dX6_mix_3 : decode cX6_mix 3 = .ok (.lload_n 0, 1) := by decide +kernel
theorem dX6_mix_4 : decode cX6_mix 4 = .ok (.lmul, 1) := by decide +kernel
theorem dX6_mix_5 : decode cX6_mix 5 = .ok (.iload_n 2, 1) := by decide +kernel
theorem dX6_mix_6 : decode cX6_mix 6 = .ok (.i2l, 1) := by decide +kernel
theorem dX6_mix_7 : decode cX6_mix 7 = .ok (.ladd, 1) := by decide +kernel
theorem dX6_mix_8 : decode cX6_mix 8 = .ok (.lreturn, 1) := by decide +kernel
theorem dX6_isBetween_0 : decode cX6_isBetween 0 = .ok (.iload_n 0, 1) := by decide +kernel
theorem dX6_isBetween_1 : decode cX6_isBetween 1 = .ok (.iload_n 1, 1) := by decide +kernel
theorem dX6_isBetween_2 : decode cX6_isBetween 2 = .ok (.if_icmp .lt 12, 3) := by decide +kernel
theorem dX6_isBetween_5 : decode cX6_isBetween 5 = .ok (.iload_n 0, 1) := by decide +kernel
theorem dX6_isBetween_6 : decode cX6_isBetween 6 = .ok (.iload_n 2, 1) := by decide +kernel
theorem dX6_isBetween_7 : decode cX6_isBetween 7 = .ok (.if_icmp .gt 7, 3) := by decide +kernel
theorem dX6_isBetween_10 : decode cX6_isBetween 10 = .ok (.iconst 1, 1) := by decide +kernel
theorem dX6_isBetween_11 : decode cX6_isBetween 11 = .ok (.goto 4, 3) := by decide +kernel
theorem dX6_isBetween_14 : decode cX6_isBetween 14 = .ok (.iconst 0, 1) := by decide +kernel
theorem dX6_isBetween_15 : decode cX6_isBetween 15 = .ok (.ireturn, 1) := by decide +kernel
theorem dX6_existing_0 : decode cX6_existing 0 = .ok (.aload_n 0, 1) := by decide +kernel
theorem dX6_existing_1 : decode cX6_existing 1 = .ok (.getfield 27, 3) := by decide +kernel
theorem dX6_existing_4 : decode cX6_existing 4 = .ok (.iload_n 1, 1) := by decide +kernel
theorem dX6_existing_5 : decode cX6_existing 5 = .ok (.invokevirtual 167, 3) := by decide +kernel
theorem dX6_existing_8 : decode cX6_existing 8 = .ok (.astore_n 2, 1) := by decide +kernel
theorem dX6_existing_9 : decode cX6_existing 9 = .ok (.aload_n 2, 1) := by decide +kernel
theorem dX6_existing_10 : decode cX6_existing 10 = .ok (.ifnonnull 13, 3) := by decide +kernel
theorem dX6_existing_13 : decode cX6_existing 13 = .ok (.new 170, 3) := by decide +kernel
theorem dX6_existing_16 : decode cX6_existing 16 = .ok (.dup, 1) := by decide +kernel
theorem dX6_existing_17 : decode cX6_existing 17 = .ok (.ldc 172, 2) := by decide +kernel
theorem dX6_existing_19 : decode cX6_existing 19 = .ok (.invokespecial 174, 3) := by decide +kernel
theorem dX6_existing_22 : decode cX6_existing 22 = .ok (.athrow, 1) := by decide +kernel
theorem dX6_existing_23 : decode cX6_existing 23 = .ok (.aload_n 2, 1) := by decide +kernel
theorem dX6_existing_24 : decode cX6_existing 24 = .ok (.areturn, 1) := by decide +kernel
theorem dX6_requireRange_0 : decode cX6_requireRange 0 = .ok (.iload_n 0, 1) := by decide +kernel
theorem dX6_requireRange_1 : decode cX6_requireRange 1 = .ok (.iload_n 1, 1) := by decide +kernel
theorem dX6_requireRange_2 : decode cX6_requireRange 2 = .ok (.iload_n 2, 1) := by decide +kernel
theorem dX6_requireRange_3 : decode cX6_requireRange 3 = .ok (.invokestatic 175, 3) := by decide +kernel
theorem dX6_requireRange_6 : decode cX6_requireRange 6 = .ok (.ifCond .ne 13, 3) := by decide +kernel
theorem dX6_requireRange_9 : decode cX6_requireRange 9 = .ok (.new 179, 3) := by decide +kernel
theorem dX6_requireRange_12 : decode cX6_requireRange 12 = .ok (.dup, 1) := by decide +kernel
theorem dX6_requireRange_13 : decode cX6_requireRange 13 = .ok (.ldc 181, 2) := by decide +kernel
theorem dX6_requireRange_15 : decode cX6_requireRange 15 = .ok (.invokespecial 183, 3) := by decide +kernel
theorem dX6_requireRange_18 : decode cX6_requireRange 18 = .ok (.athrow, 1) := by decide +kernel
theorem dX6_requireRange_19 : decode cX6_requireRange 19 = .ok (.return_, 1) := by decide +kernel
theorem dX6_requireNotNegative_0 : decode cX6_requireNotNegative 0 = .ok (.iload_n 0, 1) := by decide +kernel
theorem dX6_requireNotNegative_1 : decode cX6_requireNotNegative 1 = .ok (.ifCond .ge 13, 3) := by decide +kernel
theorem dX6_requireNotNegative_4 : decode cX6_requireNotNegative 4 = .ok (.new 179, 3) := by decide +kernel
theorem dX6_requireNotNegative_7 : decode cX6_requireNotNegative 7 = .ok (.dup, 1) := by decide +kernel
theorem dX6_requireNotNegative_8 : decode cX6_requireNotNegative 8 = .ok (.ldc 184, 2) := by decide +kernel
theorem dX6_requireNotNegative_10 : decode cX6_requireNotNegative 10 = .ok (.invokespecial 183, 3) := by decide +kernel
theorem dX6_requireNotNegative_13 : decode cX6_requireNotNegative 13 = .ok (.athrow, 1) := by decide +kernel
theorem dX6_requireNotNegative_14 : decode cX6_requireNotNegative 14 = .ok (.return_, 1) := by decide +kernel
theorem dX6_requireGroup_0 : decode cX6_requireGroup 0 = .ok (.aload_n 0, 1) := by decide +kernel
theorem dX6_requireGroup_1 : decode cX6_requireGroup 1 = .ok (.getfield 186, 3) := by decide +kernel
theorem dX6_requireGroup_4 : decode cX6_requireGroup 4 = .ok (.ifCond .eq 13, 3) := by decide +kernel
theorem dX6_requireGroup_7 : decode cX6_requireGroup 7 = .ok (.new 128, 3) := by decide +kernel
theorem dX6_requireGroup_10 : decode cX6_requireGroup 10 = .ok (.dup, 1) := by decide +kernel
theorem dX6_requireGroup_11 : decode cX6_requireGroup 11 = .ok (.ldc 190, 2) := by decide +kernel
theorem dX6_requireGroup_13 : decode cX6_requireGroup 13 = .ok (.invokespecial 132, 3) := by decide +kernel
theorem dX6_requireGroup_16 : decode cX6_requireGroup 16 = .ok (.athrow, 1) := by decide +kernel
theorem dX6_requireGroup_17 : decode cX6_requireGroup 17 = .ok (.return_, 1) := by decide +kernel
theorem dX6_requireTask_0 : decode cX6_requireTask 0 = .ok (.aload_n 0, 1) := by decide +kernel
theorem dX6_requireTask_1 : decode cX6_requireTask 1 = .ok (.getfield 186, 3) := by decide +kernel
theorem dX6_requireTask_4 : decode cX6_requireTask 4 = .ok (.ifCond .ne 13, 3) := by decide +kernel
theorem dX6_requireTask_7 : decode cX6_requireTask 7 = .ok (.new 128, 3) := by decide +kernel
theorem dX6_requireTask_10 : decode cX6_requireTask 10 = .ok (.dup, 1) := by decide +kernel
theorem dX6_requireTask_11 : decode cX6_requireTask 11 = .ok (.ldc 192, 2) := by decide +kernel
theorem dX6_requireTask_13 : decode cX6_requireTask 13 = .ok (.invokespecial 132, 3) := by decide +kernel
theorem dX6_requireTask_16 : decode cX6_requireTask 16 = .ok (.athrow, 1) := by decide +kernel
theorem dX6_requireTask_17 : decode cX6_requireTask 17 = .ok (.return_, 1) := by decide +kernel
theorem dX6_requireAllowed_0 : decode cX6_requireAllowed 0 = .ok (.aload_n 0, 1) := by decide +kernel
theorem dX6_requireAllowed_1 : decode cX6_requireAllowed 1 = .ok (.getstatic 194, 3) := by decide +kernel
theorem dX6_requireAllowed_4 : decode cX6_requireAllowed 4 = .ok (.if_acmp .ne 13, 3) := by decide +kernel
theorem dX6_requireAllowed_7 : decode cX6_requireAllowed 7 = .ok (.new 170, 3) := by decide +kernel
theorem dX6_requireAllowed_10 : decode cX6_requireAllowed 10 = .ok (.dup, 1) := by decide +kernel
theorem dX6_requireAllowed_11 : decode cX6_requireAllowed 11 = .ok (.ldc 172, 2) := by decide +kernel
theorem dX6_requireAllowed_13 : decode cX6_requireAllowed 13 = .ok (.invokespecial 174, 3) := by decide +kernel
theorem dX6_requireAllowed_16 : decode cX6_requireAllowed 16 = .ok (.athrow, 1) := by decide +kernel
theorem dX6_requireAllowed_17 : decode cX6_requireAllowed 17 = .ok (.aload_n 0, 1) := by decide +kernel
theorem dX6_requireAllowed_18 : decode cX6_requireAllowed 18 = .ok (.getstatic 200, 3) := by decide +kernel
theorem dX6_requireAllowed_21 : decode cX6_requireAllowed 21 = .ok (.if_acmp .ne 13, 3) := by decide +kernel
theorem dX6_requireAllowed_24 : decode cX6_requireAllowed 24 = .ok (.new 179, 3) := by decide +kernel
theorem dX6_requireAllowed_27 : decode cX6_requireAllowed 27 = .ok (.dup, 1) := by decide +kernel
theorem dX6_requireAllowed_28 : decode cX6_requireAllowed 28 = .ok (.ldc 181, 2) := by decide +kernel
theorem dX6_requireAllowed_30 : decode cX6_requireAllowed 30 = .ok (.invokespecial 183, 3) := by decide +kernel
theorem dX6_requireAllowed_33 : decode cX6_requireAllowed 33 = .ok (.athrow, 1) := by decide +kernel
theorem dX6_requireAllowed_34 : decode cX6_requireAllowed 34 = .ok (.aload_n 0, 1) := by decide +kernel
theorem dX6_requireAllowed_35 : decode cX6_requireAllowed 35 = .ok (.getstatic 203, 3) := by decide +kernel
theorem dX6_requireAllowed_38 : decode cX6_requireAllowed 38 = .ok (.if_acmp .ne 13, 3) := by decide +kernel
theorem dX6_requireAllowed_41 : decode cX6_requireAllowed 41 = .ok (.new 128, 3) := by decide +kernel
theorem dX6_requireAllowed_44 : decode cX6_requireAllowed 44 = .ok (.dup, 1) := by decide +kernel
theorem dX6_requireAllowed_45 : decode cX6_requireAllowed 45 = .ok (.ldc 206, 2) := by decide +kernel
theorem dX6_requireAllowed_47 : decode cX6_requireAllowed 47 = .ok (.invokespecial 132, 3) := by decide +kernel
theorem dX6_requireAllowed_50 : decode cX6_requireAllowed 50 = .ok (.athrow, 1) := by decide +kernel
theorem dX6_requireAllowed_51 : decode cX6_requireAllowed 51 = .ok (.return_, 1) := by decide +kernel
theorem dX6_change_0 : decode cX6_change 0 = .ok (.aload_n 0, 1) := by decide +kernel
theorem dX6_change_1 : decode cX6_change 1 = .ok (.getfield 27, 3) := by decide +kernel
theorem dX6_change_4 : decode cX6_change 4 = .ok (.aload_n 1, 1) := by decide +kernel
theorem dX6_change_5 : decode cX6_change 5 = .ok (.iload_n 2, 1) := by decide +kernel
theorem dX6_change_6 : decode cX6_change 6 = .ok (.iload_n 3, 1) := by decide +kernel
theorem dX6_change_7 : decode cX6_change 7 = .ok (.iload 4, 2) := by decide +kernel
theorem dX6_change_9 : decode cX6_change 9 = .ok (.invokevirtual 208, 3) := by decide +kernel
theorem dX6_change_12 : decode cX6_change 12 = .ok (.invokestatic 212, 3) := by decide +kernel
theorem dX6_change_15 : decode cX6_change 15 = .ok (.aload_n 0, 1) := by decide +kernel
theorem dX6_change_16 : decode cX6_change 16 = .ok (.invokevirtual 141, 3) := by decide +kernel
theorem dX6_change_19 : decode cX6_change 19 = .ok (.aload_n 0, 1) := by decide +kernel
theorem dX6_change_20 : decode cX6_change 20 = .ok (.getfield 27, 3) := by decide +kernel
theorem dX6_change_23 : decode cX6_change 23 = .ok (.aload_n 1, 1) := by decide +kernel
theorem dX6_change_24 : decode cX6_change 24 = .ok (.iload_n 2, 1) := by decide +kernel
theorem dX6_change_25 : decode cX6_change 25 = .ok (.iload_n 3, 1) := by decide +kernel
theorem dX6_change_26 : decode cX6_change 26 = .ok (.iload 4, 2) := by decide +kernel
theorem dX6_change_28 : decode cX6_change 28 = .ok (.invokevirtual 216, 3) := by decide +kernel
theorem dX6_change_31 : decode cX6_change 31 = .ok (.ireturn, 1) := by decide +kernel
theorem dX6_save_0 : decode cX6_save 0 = .ok (.aload_n 0, 1) := by decide +kernel
theorem dX6_save_1 : decode cX6_save 1 = .ok (.getfield 22, 3) := by decide +kernel
theorem dX6_save_4 : decode cX6_save 4 = .ok (.aload_n 0, 1) := by decide +kernel
theorem dX6_save_5 : decode cX6_save 5 = .ok (.getfield 18, 3) := by decide +kernel
theorem dX6_save_8 : decode cX6_save 8 = .ok (.arraylength, 1) := by decide +kernel
theorem dX6_save_9 : decode cX6_save 9 = .ok (.if_icmp .lt 54, 3) := by decide +kernel
theorem dX6_save_12 : decode cX6_save 12 = .ok (.aload_n 0, 1) := by decide +kernel
theorem dX6_save_13 : decode cX6_save 13 = .ok (.getfield 18, 3) := by decide +kernel
theorem dX6_save_16 : decode cX6_save 16 = .ok (.iconst 0, 1) := by decide +kernel
theorem dX6_save_17 : decode cX6_save 17 = .ok (.aaload, 1) := by decide +kernel
theorem dX6_save_18 : decode cX6_save 18 = .ok (.astore_n 1, 1) := by decide +kernel
theorem dX6_save_19 : decode cX6_save 19 = .ok (.iconst 1, 1) := by decide +kernel
theorem dX6_save_20 : decode cX6_save 20 = .ok (.istore_n 2, 1) := by decide +kernel
theorem dX6_save_21 : decode cX6_save 21 = .ok (.iload_n 2, 1) := by decide +kernel
theorem dX6_save_22 : decode cX6_save 22 = .ok (.aload_n 0, 1) := by decide +kernel
theorem dX6_save_23 : decode cX6_save 23 = .ok (.getfield 18, 3) := by decide +kernel
theorem dX6_save_26 : decode cX6_save 26 = .ok (.arraylength, 1) := by decide +kernel
theorem dX6_save_27 : decode cX6_save 27 = .ok (.if_icmp .ge 23, 3) := by decide +kernel
theorem dX6_save_30 : decode cX6_save 30 = .ok (.aload_n 0, 1) := by decide +kernel
theorem dX6_save_31 : decode cX6_save 31 = .ok (.getfield 18, 3) := by decide +kernel
theorem dX6_save_34 : decode cX6_save 34 = .ok (.iload_n 2, 1) := by decide +kernel
theorem dX6_save_35 : decode cX6_save 35 = .ok (.iconst 1, 1) := by decide +kernel
theorem dX6_save_36 : decode cX6_save 36 = .ok (.isub, 1) := by decide +kernel
theorem dX6_save_37 : decode cX6_save 37 = .ok (.aload_n 0, 1) := by decide +kernel
theorem dX6_save_38 : decode cX6_save 38 = .ok (.getfield 18, 3) := by decide +kernel
theorem dX6_save_41 : decode cX6_save 41 = .ok (.iload_n 2, 1) := by decide +kernel
theorem dX6_save_42 : decode cX6_save 42 = .ok (.aaload, 1) := by decide +kernel
theorem dX6_save_43 : decode cX6_save 43 = .ok (.aastore, 1) := by decide +kernel
theorem dX6_save_44 : decode cX6_save 44 = .ok (.iinc 2 1, 3) := by decide +kernel
theorem dX6_save_47 : decode cX6_save 47 = .ok (.goto (-26), 3) := by decide +kernel
theorem dX6_save_50 : decode cX6_save 50 = .ok (.aload_n 0, 1) := by decide +kernel
theorem dX6_save_51 : decode cX6_save 51 = .ok (.getfield 18, 3) := by decide +kernel
theorem dX6_save_54 : decode cX6_save 54 = .ok (.aload_n 0, 1) := by decide +kernel
theorem dX6_save_55 : decode cX6_save 55 = .ok (.getfield 18, 3) := by decide +kernel
theorem dX6_save_58 : decode cX6_save 58 = .ok (.arraylength, 1) := by decide +kernel
theorem dX6_save_59 : decode cX6_save 59 = .ok (.iconst 1, 1) := by decide +kernel
theorem dX6_save_60 : decode cX6_save 60 = .ok (.isub, 1) := by decide +kernel
theorem dX6_save_61 : decode cX6_save 61 = .ok (.aload_n 1, 1) := by decide +kernel
theorem dX6_save_62 : decode cX6_save 62 = .ok (.aastore, 1) := by decide +kernel
theorem dX6_save_63 : decode cX6_save 63 = .ok (.aload_n 0, 1) := by decide +kernel
theorem dX6_save_64 : decode cX6_save 64 = .ok (.getfield 22, 3) := by decide +kernel
theorem dX6_save_67 : decode cX6_save 67 = .ok (.aload_n 0, 1) := by decide +kernel
theorem dX6_save_68 : decode cX6_save 68 = .ok (.getfield 18, 3) := by decide +kernel
theorem dX6_save_71 : decode cX6_save 71 = .ok (.arraylength, 1) := by decide +kernel
theorem dX6_save_72 : decode cX6_save 72 = .ok (.iconst 1, 1) := by decide +kernel
theorem dX6_save_73 : decode cX6_save 73 = .ok (.isub, 1) := by decide +kernel
theorem dX6_save_74 : decode cX6_save 74 = .ok (.invokestatic 219, 3) := by decide +kernel
theorem dX6_save_77 : decode cX6_save 77 = .ok (.istore_n 1, 1) := by decide +kernel
theorem dX6_save_78 : decode cX6_save 78 = .ok (.aload_n 0, 1) := by decide +kernel
theorem dX6_save_79 : decode cX6_save 79 = .ok (.getfield 18, 3) := by decide +kernel
theorem dX6_save_82 : decode cX6_save 82 = .ok (.iload_n 1, 1) := by decide +kernel
theorem dX6_save_83 : decode cX6_save 83 = .ok (.aaload, 1) := by decide +kernel
theorem dX6_save_84 : decode cX6_save 84 = .ok (.aload_n 0, 1) := by decide +kernel
theorem dX6_save_85 : decode cX6_save 85 = .ok (.getfield 27, 3) := by decide +kernel
theorem dX6_save_88 : decode cX6_save 88 = .ok (.invokevirtual 225, 3) := by decide +kernel
theorem dX6_save_91 : decode cX6_save 91 = .ok (.aload_n 0, 1) := by decide +kernel
theorem dX6_save_92 : decode cX6_save 92 = .ok (.iload_n 1, 1) := by decide +kernel
theorem dX6_save_93 : decode cX6_save 93 = .ok (.iconst 1, 1) := by decide +kernel
theorem dX6_save_94 : decode cX6_save 94 = .ok (.iadd, 1) := by decide +kernel
theorem dX6_save_95 : decode cX6_save 95 = .ok (.putfield 22, 3) := by decide +kernel
theorem dX6_save_98 : decode cX6_save 98 = .ok (.return_, 1) := by decide +kernel
theorem dX6_runFaultless_0 : decode cX6_runFaultless 0 = .ok (.aload_n 0, 1) := by decide +kernel
theorem dX6_runFaultless_1 : decode cX6_runFaultless 1 = .ok (.getfield 10, 3) := by decide +kernel
theorem dX6_runFaultless_4 : decode cX6_runFaultless 4 = .ok (.invokevirtual 229, 3) := by decide +kernel
theorem dX6_runFaultless_7 : decode cX6_runFaultless 7 = .ok (.iconst 0, 1) := by decide +kernel
theorem dX6_runFaultless_8 : decode cX6_runFaultless 8 = .ok (.istore_n 1, 1) := by decide +kernel
theorem dX6_runFaultless_9 : decode cX6_runFaultless 9 = .ok (.iload_n 1, 1) := by decide +kernel
theorem dX6_runFaultless_10 : decode cX6_runFaultless 10 = .ok (.sipush 150, 3) := by decide +kernel
theorem dX6_runFaultless_13 : decode cX6_runFaultless 13 = .ok (.if_icmp .ge 90, 3) := by decide +kernel
theorem dX6_runFaultless_16 : decode cX6_runFaultless 16 = .ok (.aload_n 0, 1) := by decide +kernel
theorem dX6_runFaultless_17 : decode cX6_runFaultless 17 = .ok (.getfield 10, 3) := by decide +kernel
theorem dX6_runFaultless_20 : decode cX6_runFaultless 20 = .ok (.invokevirtual 232, 3) := by decide +kernel
theorem dX6_runFaultless_23 : decode cX6_runFaultless 23 = .ok (.astore_n 2, 1) := by decide +kernel
theorem dX6_runFaultless_24 : decode cX6_runFaultless 24 = .ok (.aload_n 2, 1) := by decide +kernel
theorem dX6_runFaultless_25 : decode cX6_runFaultless 25 = .ok (.ifnonnull 5, 3) := by decide +kernel
theorem dX6_runFaultless_28 : decode cX6_runFaultless 28 = .ok (.iload_n 1, 1) := by decide +kernel
theorem dX6_runFaultless_29 : decode cX6_runFaultless 29 = .ok (.ireturn, 1) := by decide +kernel
theorem dX6_runFaultless_30 : decode cX6_runFaultless 30 = .ok (.aload_n 0, 1) := by decide +kernel
theorem dX6_runFaultless_31 : decode cX6_runFaultless 31 = .ok (.getfield 10, 3) := by decide +kernel
theorem dX6_runFaultless_34 : decode cX6_runFaultless 34 = .ok (.getfield 236, 3) := by decide +kernel
theorem dX6_runFaultless_37 : decode cX6_runFaultless 37 = .ok (.iconst 0, 1) := by decide +kernel
theorem dX6_runFaultless_38 : decode cX6_runFaultless 38 = .ok (.iaload, 1) := by decide +kernel
theorem dX6_runFaultless_39 : decode cX6_runFaultless 39 = .ok (.istore_n 3, 1) := by decide +kernel
theorem dX6_runFaultless_40 : decode cX6_runFaultless 40 = .ok (.aload_n 0, 1) := by decide +kernel
theorem dX6_runFaultless_41 : decode cX6_runFaultless 41 = .ok (.getfield 10, 3) := by decide +kernel
theorem dX6_runFaultless_44 : decode cX6_runFaultless 44 = .ok (.getfield 236, 3) := by decide +kernel
theorem dX6_runFaultless_47 : decode cX6_runFaultless 47 = .ok (.iconst 1, 1) := by decide +kernel
theorem dX6_runFaultless_48 : decode cX6_runFaultless 48 = .ok (.iaload, 1) := by decide +kernel
theorem dX6_runFaultless_49 : decode cX6_runFaultless 49 = .ok (.istore 4, 2) := by decide +kernel
theorem dX6_runFaultless_51 : decode cX6_runFaultless 51 = .ok (.aload_n 0, 1) := by decide +kernel
theorem dX6_runFaultless_52 : decode cX6_runFaultless 52 = .ok (.getfield 10, 3) := by decide +kernel
theorem dX6_runFaultless_55 : decode cX6_runFaultless 55 = .ok (.getfield 236, 3) := by decide +kernel
theorem dX6_runFaultless_58 : decode cX6_runFaultless 58 = .ok (.iconst 2, 1) := by decide +kernel
theorem dX6_runFaultless_59 : decode cX6_runFaultless 59 = .ok (.iaload, 1) := by decide +kernel
theorem dX6_runFaultless_60 : decode cX6_runFaultless 60 = .ok (.istore 5, 2) := by decide +kernel
theorem dX6_runFaultless_62 : decode cX6_runFaultless 62 = .ok (.aload_n 0, 1) := by decide +kernel
theorem dX6_runFaultless_63 : decode cX6_runFaultless 63 = .ok (.getfield 27, 3) := by decide +kernel
theorem dX6_runFaultless_66 : decode cX6_runFaultless 66 = .ok (.aload_n 2, 1) := by decide +kernel
theorem dX6_runFaultless_67 : decode cX6_runFaultless 67 = .ok (.iload_n 3, 1) := by decide +kernel
theorem dX6_runFaultless_68 : decode cX6_runFaultless 68 = .ok (.iload 4, 2) := by decide +kernel
theorem dX6_runFaultless_70 : decode cX6_runFaultless 70 = .ok (.iload 5, 2) := by decide +kernel
theorem dX6_runFaultless_72 : decode cX6_runFaultless 72 = .ok (.invokevirtual 208, 3) := by decide +kernel
theorem dX6_runFaultless_75 : decode cX6_runFaultless 75 = .ok (.getstatic 240, 3) := by decide +kernel
theorem dX6_runFaultless_78 : decode cX6_runFaultless 78 = .ok (.if_acmp .eq 5, 3) := by decide +kernel
theorem dX6_runFaultless_81 : decode cX6_runFaultless 81 = .ok (.iload_n 1, 1) := by decide +kernel
theorem dX6_runFaultless_82 : decode cX6_runFaultless 82 = .ok (.ireturn, 1) := by decide +kernel
theorem dX6_runFaultless_83 : decode cX6_runFaultless 83 = .ok (.aload_n 0, 1) := by decide +kernel
theorem dX6_runFaultless_84 : decode cX6_runFaultless 84 = .ok (.getfield 27, 3) := by decide +kernel
theorem dX6_runFaultless_87 : decode cX6_runFaultless 87 = .ok (.aload_n 2, 1) := by decide +kernel
theorem dX6_runFaultless_88 : decode cX6_runFaultless 88 = .ok (.iload_n 3, 1) := by decide +kernel
theorem dX6_runFaultless_89 : decode cX6_runFaultless 89 = .ok (.iload 4, 2) := by decide +kernel
theorem dX6_runFaultless_91 : decode cX6_runFaultless 91 = .ok (.iload 5, 2) := by decide +kernel
theorem dX6_runFaultless_93 : decode cX6_runFaultless 93 = .ok (.invokevirtual 216, 3) := by decide +kernel
theorem dX6_runFaultless_96 : decode cX6_runFaultless 96 = .ok (.pop, 1) := by decide +kernel
theorem dX6_runFaultless_97 : decode cX6_runFaultless 97 = .ok (.iinc 1 1, 3) := by decide +kernel
theorem dX6_runFaultless_100 : decode cX6_runFaultless 100 = .ok (.goto (-91), 3) := by decide +kernel
theorem dX6_runFaultless_103 : decode cX6_runFaultless 103 = .ok (.sipush 150, 3) := by decide +kernel
theorem dX6_runFaultless_106 : decode cX6_runFaultless 106 = .ok (.ireturn, 1) := by decide +kernel
theorem dX6_wholeValue_0 : decode cX6_wholeValue 0 = .ok (.iload_n 1, 1) := by decide +kernel
theorem dX6_wholeValue_1 : decode cX6_wholeValue 1 = .ok (.bipush 11, 2) := by decide +kernel
theorem dX6_wholeValue_3 : decode cX6_wholeValue 3 = .ok (.if_icmp .ne 13, 3) := by decide +kernel
theorem dX6_wholeValue_6 : decode cX6_wholeValue 6 = .ok (.aload_n 0, 1) := by decide +kernel
theorem dX6_wholeValue_7 : decode cX6_wholeValue 7 = .ok (.getfield 10, 3) := by decide +kernel
theorem dX6_wholeValue_10 : decode cX6_wholeValue 10 = .ok (.getfield 135, 3) := by decide +kernel
theorem dX6_wholeValue_13 : decode cX6_wholeValue 13 = .ok (.goto 11, 3) := by decide +kernel
theorem dX6_wholeValue_16 : decode cX6_wholeValue 16 = .ok (.aload_n 0, 1) := by decide +kernel
theorem dX6_wholeValue_17 : decode cX6_wholeValue 17 = .ok (.getfield 27, 3) := by decide +kernel
theorem dX6_wholeValue_20 : decode cX6_wholeValue 20 = .ok (.iload_n 1, 1) := by decide +kernel
theorem dX6_wholeValue_21 : decode cX6_wholeValue 21 = .ok (.invokevirtual 243, 3) := by decide +kernel
theorem dX6_wholeValue_24 : decode cX6_wholeValue 24 = .ok (.ireturn, 1) := by decide +kernel
