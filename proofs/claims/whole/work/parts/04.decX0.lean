theorem dX0_init_0 : decode cX0_init 0 = .ok (.aload_n 0, 1) := by decide +kernel
theorem dX0_init_1 : decode cX0_init 1 = .ok (.invokespecial 3, 3) := by decide +kernel
theorem dX0_init_4 : decode cX0_init 4 = .ok (.aload_n 0, 1) := by decide +kernel
theorem dX0_init_5 : decode cX0_init 5 = .ok (.bipush 10, 2) := by decide +kernel
theorem dX0_init_7 : decode cX0_init 7 = .ok (.newarray .int, 2) := by decide +kernel
theorem dX0_init_9 : decode cX0_init 9 = .ok (.putfield 9, 3) := by decide +kernel
theorem dX0_init_12 : decode cX0_init 12 = .ok (.aload_n 0, 1) := by decide +kernel
theorem dX0_init_13 : decode cX0_init 13 = .ok (.bipush 10, 2) := by decide +kernel
theorem dX0_init_15 : decode cX0_init 15 = .ok (.newarray .long, 2) := by decide +kernel
theorem dX0_init_17 : decode cX0_init 17 = .ok (.putfield 15, 3) := by decide +kernel
theorem dX0_init_20 : decode cX0_init 20 = .ok (.iconst 0, 1) := by decide +kernel
theorem dX0_init_21 : decode cX0_init 21 = .ok (.istore_n 1, 1) := by decide +kernel
theorem dX0_init_22 : decode cX0_init 22 = .ok (.iload_n 1, 1) := by decide +kernel
theorem dX0_init_23 : decode cX0_init 23 = .ok (.bipush 10, 2) := by decide +kernel
theorem dX0_init_25 : decode cX0_init 25 = .ok (.if_icmp .ge 18, 3) := by decide +kernel
theorem dX0_init_28 : decode cX0_init 28 = .ok (.aload_n 0, 1) := by decide +kernel
theorem dX0_init_29 : decode cX0_init 29 = .ok (.getfield 9, 3) := by decide +kernel
theorem dX0_init_32 : decode cX0_init 32 = .ok (.iload_n 1, 1) := by decide +kernel
theorem dX0_init_33 : decode cX0_init 33 = .ok (.iconst 1, 1) := by decide +kernel
theorem dX0_init_34 : decode cX0_init 34 = .ok (.iload_n 1, 1) := by decide +kernel
theorem dX0_init_35 : decode cX0_init 35 = .ok (.ishl, 1) := by decide +kernel
theorem dX0_init_36 : decode cX0_init 36 = .ok (.iastore, 1) := by decide +kernel
theorem dX0_init_37 : decode cX0_init 37 = .ok (.iinc 1 1, 3) := by decide +kernel
theorem dX0_init_40 : decode cX0_init 40 = .ok (.goto (-18), 3) := by decide +kernel
theorem dX0_init_43 : decode cX0_init 43 = .ok (.return_, 1) := by decide +kernel
theorem dX0_become_0 : decode cX0_become 0 = .ok (.aload_n 1, 1) := by decide +kernel
theorem dX0_become_1 : decode cX0_become 1 = .ok (.getfield 9, 3) := by decide +kernel
theorem dX0_become_4 : decode cX0_become 4 = .ok (.iconst 0, 1) := by decide +kernel
theorem dX0_become_5 : decode cX0_become 5 = .ok (.aload_n 0, 1) := by decide +kernel
theorem dX0_become_6 : decode cX0_become 6 = .ok (.getfield 9, 3) := by decide +kernel
theorem dX0_become_9 : decode cX0_become 9 = .ok (.iconst 0, 1) := by decide +kernel
theorem dX0_become_10 : decode cX0_become 10 = .ok (.bipush 10, 2) := by decide +kernel
theorem dX0_become_12 : decode cX0_become 12 = .ok (.invokestatic 19, 3) := by decide +kernel
theorem dX0_become_15 : decode cX0_become 15 = .ok (.aload_n 1, 1) := by decide +kernel
theorem dX0_become_16 : decode cX0_become 16 = .ok (.getfield 15, 3) := by decide +kernel
theorem dX0_become_19 : decode cX0_become 19 = .ok (.iconst 0, 1) := by decide +kernel
theorem dX0_become_20 : decode cX0_become 20 = .ok (.aload_n 0, 1) := by decide +kernel
theorem dX0_become_21 : decode cX0_become 21 = .ok (.getfield 15, 3) := by decide +kernel
theorem dX0_become_24 : decode cX0_become 24 = .ok (.iconst 0, 1) := by decide +kernel
theorem dX0_become_25 : decode cX0_become 25 = .ok (.bipush 10, 2) := by decide +kernel
theorem dX0_become_27 : decode cX0_become 27 = .ok (.invokestatic 19, 3) := by decide +kernel
theorem dX0_become_30 : decode cX0_become 30 = .ok (.aload_n 0, 1) := by decide +kernel
theorem dX0_become_31 : decode cX0_become 31 = .ok (.aload_n 1, 1) := by decide +kernel
theorem dX0_become_32 : decode cX0_become 32 = .ok (.getfield 25, 3) := by decide +kernel
theorem dX0_become_35 : decode cX0_become 35 = .ok (.putfield 25, 3) := by decide +kernel
theorem dX0_become_38 : decode cX0_become 38 = .ok (.return_, 1) := by decide +kernel
theorem dX0_restOf_0 : decode cX0_restOf 0 = .ok (.iconst 0, 1) := by decide +kernel
theorem dX0_restOf_1 : decode cX0_restOf 1 = .ok (.istore_n 2, 1) := by decide +kernel
theorem dX0_restOf_2 : decode cX0_restOf 2 = .ok (.iconst 0, 1) := by decide +kernel
theorem dX0_restOf_3 : decode cX0_restOf 3 = .ok (.istore_n 3, 1) := by decide +kernel
theorem dX0_restOf_4 : decode cX0_restOf 4 = .ok (.iload_n 3, 1) := by decide +kernel
theorem dX0_restOf_5 : decode cX0_restOf 5 = .ok (.bipush 10, 2) := by decide +kernel
theorem dX0_restOf_7 : decode cX0_restOf 7 = .ok (.if_icmp .ge 26, 3) := by decide +kernel
theorem dX0_restOf_10 : decode cX0_restOf 10 = .ok (.iload_n 3, 1) := by decide +kernel
theorem dX0_restOf_11 : decode cX0_restOf 11 = .ok (.iload_n 1, 1) := by decide +kernel
theorem dX0_restOf_12 : decode cX0_restOf 12 = .ok (.invokestatic 29, 3) := by decide +kernel
theorem dX0_restOf_15 : decode cX0_restOf 15 = .ok (.ifCond .eq 12, 3) := by decide +kernel
theorem dX0_restOf_18 : decode cX0_restOf 18 = .ok (.iload_n 2, 1) := by decide +kernel
theorem dX0_restOf_19 : decode cX0_restOf 19 = .ok (.aload_n 0, 1) := by decide +kernel
theorem dX0_restOf_20 : decode cX0_restOf 20 = .ok (.getfield 9, 3) := by decide +kernel
theorem dX0_restOf_23 : decode cX0_restOf 23 = .ok (.iload_n 3, 1) := by decide +kernel
theorem dX0_restOf_24 : decode cX0_restOf 24 = .ok (.iaload, 1) := by decide +kernel
theorem dX0_restOf_25 : decode cX0_restOf 25 = .ok (.ixor, 1) := by decide +kernel
theorem dX0_restOf_26 : decode cX0_restOf 26 = .ok (.istore_n 2, 1) := by decide +kernel
theorem dX0_restOf_27 : decode cX0_restOf 27 = .ok (.iinc 3 1, 3) := by decide +kernel
theorem dX0_restOf_30 : decode cX0_restOf 30 = .ok (.goto (-26), 3) := by decide +kernel
theorem dX0_restOf_33 : decode cX0_restOf 33 = .ok (.iload_n 2, 1) := by decide +kernel
theorem dX0_restOf_34 : decode cX0_restOf 34 = .ok (.ireturn, 1) := by decide +kernel
theorem dX0_rowsOf_0 : decode cX0_rowsOf 0 = .ok (.lconst 0, 1) := by decide +kernel
theorem dX0_rowsOf_1 : decode cX0_rowsOf 1 = .ok (.lstore_n 2, 1) := by decide +kernel
theorem dX0_rowsOf_2 : decode cX0_rowsOf 2 = .ok (.iconst 0, 1) := by decide +kernel
theorem dX0_rowsOf_3 : decode cX0_rowsOf 3 = .ok (.istore 4, 2) := by decide +kernel
theorem dX0_rowsOf_5 : decode cX0_rowsOf 5 = .ok (.iload 4, 2) := by decide +kernel
theorem dX0_rowsOf_7 : decode cX0_rowsOf 7 = .ok (.bipush 10, 2) := by decide +kernel
theorem dX0_rowsOf_9 : decode cX0_rowsOf 9 = .ok (.if_icmp .ge 28, 3) := by decide +kernel
theorem dX0_rowsOf_12 : decode cX0_rowsOf 12 = .ok (.iload 4, 2) := by decide +kernel
theorem dX0_rowsOf_14 : decode cX0_rowsOf 14 = .ok (.iload_n 1, 1) := by decide +kernel
theorem dX0_rowsOf_15 : decode cX0_rowsOf 15 = .ok (.invokestatic 29, 3) := by decide +kernel
theorem dX0_rowsOf_18 : decode cX0_rowsOf 18 = .ok (.ifCond .eq 13, 3) := by decide +kernel
theorem dX0_rowsOf_21 : decode cX0_rowsOf 21 = .ok (.lload_n 2, 1) := by decide +kernel
theorem dX0_rowsOf_22 : decode cX0_rowsOf 22 = .ok (.aload_n 0, 1) := by decide +kernel
theorem dX0_rowsOf_23 : decode cX0_rowsOf 23 = .ok (.getfield 15, 3) := by decide +kernel
theorem dX0_rowsOf_26 : decode cX0_rowsOf 26 = .ok (.iload 4, 2) := by decide +kernel
theorem dX0_rowsOf_28 : decode cX0_rowsOf 28 = .ok (.laload, 1) := by decide +kernel
theorem dX0_rowsOf_29 : decode cX0_rowsOf 29 = .ok (.lxor, 1) := by decide +kernel
theorem dX0_rowsOf_30 : decode cX0_rowsOf 30 = .ok (.lstore_n 2, 1) := by decide +kernel
theorem dX0_rowsOf_31 : decode cX0_rowsOf 31 = .ok (.iinc 4 1, 3) := by decide +kernel
theorem dX0_rowsOf_34 : decode cX0_rowsOf 34 = .ok (.goto (-29), 3) := by decide +kernel
theorem dX0_rowsOf_37 : decode cX0_rowsOf 37 = .ok (.lload_n 2, 1) := by decide +kernel
theorem dX0_rowsOf_38 : decode cX0_rowsOf 38 = .ok (.lreturn, 1) := by decide +kernel
theorem dX0_learn_0 : decode cX0_learn 0 = .ok (.aload_n 0, 1) := by decide +kernel
theorem dX0_learn_1 : decode cX0_learn 1 = .ok (.iload_n 1, 1) := by decide +kernel
theorem dX0_learn_2 : decode cX0_learn 2 = .ok (.invokevirtual 33, 3) := by decide +kernel
theorem dX0_learn_5 : decode cX0_learn 5 = .ok (.istore 4, 2) := by decide +kernel
theorem dX0_learn_7 : decode cX0_learn 7 = .ok (.iload 4, 2) := by decide +kernel
theorem dX0_learn_9 : decode cX0_learn 9 = .ok (.ifCond .ne 5, 3) := by decide +kernel
theorem dX0_learn_12 : decode cX0_learn 12 = .ok (.iconst 0, 1) := by decide +kernel
theorem dX0_learn_13 : decode cX0_learn 13 = .ok (.ireturn, 1) := by decide +kernel
theorem dX0_learn_14 : decode cX0_learn 14 = .ok (.aload_n 0, 1) := by decide +kernel
theorem dX0_learn_15 : decode cX0_learn 15 = .ok (.iload_n 1, 1) := by decide +kernel
theorem dX0_learn_16 : decode cX0_learn 16 = .ok (.invokevirtual 37, 3) := by decide +kernel
theorem dX0_learn_19 : decode cX0_learn 19 = .ok (.lload_n 2, 1) := by decide +kernel
theorem dX0_learn_20 : decode cX0_learn 20 = .ok (.lxor, 1) := by decide +kernel
theorem dX0_learn_21 : decode cX0_learn 21 = .ok (.lstore 5, 2) := by decide +kernel
theorem dX0_learn_23 : decode cX0_learn 23 = .ok (.iload 4, 2) := by decide +kernel
theorem dX0_learn_25 : decode cX0_learn 25 = .ok (.invokestatic 41, 3) := by decide +kernel
theorem dX0_learn_28 : decode cX0_learn 28 = .ok (.istore 7, 2) := by decide +kernel
theorem dX0_learn_30 : decode cX0_learn 30 = .ok (.iconst 0, 1) := by decide +kernel
theorem dX0_learn_31 : decode cX0_learn 31 = .ok (.istore 8, 2) := by decide +kernel
theorem dX0_learn_33 : decode cX0_learn 33 = .ok (.iload 8, 2) := by decide +kernel
theorem dX0_learn_35 : decode cX0_learn 35 = .ok (.bipush 10, 2) := by decide +kernel
theorem dX0_learn_37 : decode cX0_learn 37 = .ok (.if_icmp .ge 46, 3) := by decide +kernel
theorem dX0_learn_40 : decode cX0_learn 40 = .ok (.aload_n 0, 1) := by decide +kernel
theorem dX0_learn_41 : decode cX0_learn 41 = .ok (.getfield 9, 3) := by decide +kernel
theorem dX0_learn_44 : decode cX0_learn 44 = .ok (.iload 8, 2) := by decide +kernel
theorem dX0_learn_46 : decode cX0_learn 46 = .ok (.iaload, 1) := by decide +kernel
theorem dX0_learn_47 : decode cX0_learn 47 = .ok (.iload 7, 2) := by decide +kernel
theorem dX0_learn_49 : decode cX0_learn 49 = .ok (.iand, 1) := by decide +kernel
theorem dX0_learn_50 : decode cX0_learn 50 = .ok (.ifCond .eq 27, 3) := by decide +kernel
theorem dX0_learn_53 : decode cX0_learn 53 = .ok (.aload_n 0, 1) := by decide +kernel
theorem dX0_learn_54 : decode cX0_learn 54 = .ok (.getfield 9, 3) := by decide +kernel
theorem dX0_learn_57 : decode cX0_learn 57 = .ok (.iload 8, 2) := by decide +kernel
theorem dX0_learn_59 : decode cX0_learn 59 = .ok (.dup2, 1) := by decide +kernel
theorem dX0_learn_60 : decode cX0_learn 60 = .ok (.iaload, 1) := by decide +kernel
theorem dX0_learn_61 : decode cX0_learn 61 = .ok (.iload 4, 2) := by decide +kernel
theorem dX0_learn_63 : decode cX0_learn 63 = .ok (.ixor, 1) := by decide +kernel
theorem dX0_learn_64 : decode cX0_learn 64 = .ok (.iastore, 1) := by decide +kernel
theorem dX0_learn_65 : decode cX0_learn 65 = .ok (.aload_n 0, 1) := by decide +kernel
theorem dX0_learn_66 : decode cX0_learn 66 = .ok (.getfield 15, 3) := by decide +kernel
theorem dX0_learn_69 : decode cX0_learn 69 = .ok (.iload 8, 2) := by decide +kernel
theorem dX0_learn_71 : decode cX0_learn 71 = .ok (.dup2, 1) := by decide +kernel
theorem dX0_learn_72 : decode cX0_learn 72 = .ok (.laload, 1) := by decide +kernel
theorem dX0_learn_73 : decode cX0_learn 73 = .ok (.lload 5, 2) := by decide +kernel
theorem dX0_learn_75 : decode cX0_learn 75 = .ok (.lxor, 1) := by decide +kernel
theorem dX0_learn_76 : decode cX0_learn 76 = .ok (.lastore, 1) := by decide +kernel
theorem dX0_learn_77 : decode cX0_learn 77 = .ok (.iinc 8 1, 3) := by decide +kernel
theorem dX0_learn_80 : decode cX0_learn 80 = .ok (.goto (-47), 3) := by decide +kernel
theorem dX0_learn_83 : decode cX0_learn 83 = .ok (.aload_n 0, 1) := by decide +kernel
theorem dX0_learn_84 : decode cX0_learn 84 = .ok (.dup, 1) := by decide +kernel
theorem dX0_learn_85 : decode cX0_learn 85 = .ok (.getfield 25, 3) := by decide +kernel
theorem dX0_learn_88 : decode cX0_learn 88 = .ok (.iconst 1, 1) := by decide +kernel
theorem dX0_learn_89 : decode cX0_learn 89 = .ok (.iadd, 1) := by decide +kernel
theorem dX0_learn_90 : decode cX0_learn 90 = .ok (.putfield 25, 3) := by decide +kernel
theorem dX0_learn_93 : decode cX0_learn 93 = .ok (.iconst 1, 1) := by decide +kernel
theorem dX0_learn_94 : decode cX0_learn 94 = .ok (.ireturn, 1) := by decide +kernel
theorem dX0_isWorkedOut_0 : decode cX0_isWorkedOut 0 = .ok (.iload_n 1, 1) := by decide +kernel
theorem dX0_isWorkedOut_1 : decode cX0_isWorkedOut 1 = .ok (.ifCond .lt 22, 3) := by decide +kernel
theorem dX0_isWorkedOut_4 : decode cX0_isWorkedOut 4 = .ok (.iload_n 1, 1) := by decide +kernel
theorem dX0_isWorkedOut_5 : decode cX0_isWorkedOut 5 = .ok (.bipush 10, 2) := by decide +kernel
theorem dX0_isWorkedOut_7 : decode cX0_isWorkedOut 7 = .ok (.if_icmp .ge 16, 3) := by decide +kernel
theorem dX0_isWorkedOut_10 : decode cX0_isWorkedOut 10 = .ok (.aload_n 0, 1) := by decide +kernel
theorem dX0_isWorkedOut_11 : decode cX0_isWorkedOut 11 = .ok (.getfield 9, 3) := by decide +kernel
theorem dX0_isWorkedOut_14 : decode cX0_isWorkedOut 14 = .ok (.iload_n 1, 1) := by decide +kernel
theorem dX0_isWorkedOut_15 : decode cX0_isWorkedOut 15 = .ok (.iaload, 1) := by decide +kernel
theorem dX0_isWorkedOut_16 : decode cX0_isWorkedOut 16 = .ok (.ifCond .ne 7, 3) := by decide +kernel
theorem dX0_isWorkedOut_19 : decode cX0_isWorkedOut 19 = .ok (.iconst 1, 1) := by decide +kernel
theorem dX0_isWorkedOut_20 : decode cX0_isWorkedOut 20 = .ok (.goto 4, 3) := by decide +kernel
theorem dX0_isWorkedOut_23 : decode cX0_isWorkedOut 23 = .ok (.iconst 0, 1) := by decide +kernel
theorem dX0_isWorkedOut_24 : decode cX0_isWorkedOut 24 = .ok (.ireturn, 1) := by decide +kernel
theorem dX0_workedOut_0 : decode cX0_workedOut 0 = .ok (.aload_n 0, 1) := by decide +kernel
theorem dX0_workedOut_1 : decode cX0_workedOut 1 = .ok (.iconst 0, 1) := by decide +kernel
theorem dX0_workedOut_2 : decode cX0_workedOut 2 = .ok (.invokevirtual 46, 3) := by decide +kernel
theorem dX0_workedOut_5 : decode cX0_workedOut 5 = .ok (.ireturn, 1) := by decide +kernel
theorem dX0_workedOutWith_0 : decode cX0_workedOutWith 0 = .ok (.iconst 0, 1) := by decide +kernel
theorem dX0_workedOutWith_1 : decode cX0_workedOutWith 1 = .ok (.istore_n 2, 1) := by decide +kernel
theorem dX0_workedOutWith_2 : decode cX0_workedOutWith 2 = .ok (.iconst 0, 1) := by decide +kernel
theorem dX0_workedOutWith_3 : decode cX0_workedOutWith 3 = .ok (.istore_n 3, 1) := by decide +kernel
theorem dX0_workedOutWith_4 : decode cX0_workedOutWith 4 = .ok (.iload_n 3, 1) := by decide +kernel
theorem dX0_workedOutWith_5 : decode cX0_workedOutWith 5 = .ok (.bipush 10, 2) := by decide +kernel
theorem dX0_workedOutWith_7 : decode cX0_workedOutWith 7 = .ok (.if_icmp .ge 34, 3) := by decide +kernel
theorem dX0_workedOutWith_10 : decode cX0_workedOutWith 10 = .ok (.aload_n 0, 1) := by decide +kernel
theorem dX0_workedOutWith_11 : decode cX0_workedOutWith 11 = .ok (.getfield 9, 3) := by decide +kernel
theorem dX0_workedOutWith_14 : decode cX0_workedOutWith 14 = .ok (.iload_n 3, 1) := by decide +kernel
theorem dX0_workedOutWith_15 : decode cX0_workedOutWith 15 = .ok (.iaload, 1) := by decide +kernel
theorem dX0_workedOutWith_16 : decode cX0_workedOutWith 16 = .ok (.ifCond .eq 13, 3) := by decide +kernel
theorem dX0_workedOutWith_19 : decode cX0_workedOutWith 19 = .ok (.aload_n 0, 1) := by decide +kernel
theorem dX0_workedOutWith_20 : decode cX0_workedOutWith 20 = .ok (.getfield 9, 3) := by decide +kernel
theorem dX0_workedOutWith_23 : decode cX0_workedOutWith 23 = .ok (.iload_n 3, 1) := by decide +kernel
theorem dX0_workedOutWith_24 : decode cX0_workedOutWith 24 = .ok (.iaload, 1) := by decide +kernel
theorem dX0_workedOutWith_25 : decode cX0_workedOutWith 25 = .ok (.iload_n 1, 1) := by decide +kernel
theorem dX0_workedOutWith_26 : decode cX0_workedOutWith 26 = .ok (.if_icmp .ne 9, 3) := by decide +kernel
theorem dX0_workedOutWith_29 : decode cX0_workedOutWith 29 = .ok (.iload_n 2, 1) := by decide +kernel
theorem dX0_workedOutWith_30 : decode cX0_workedOutWith 30 = .ok (.iconst 1, 1) := by decide +kernel
theorem dX0_workedOutWith_31 : decode cX0_workedOutWith 31 = .ok (.iload_n 3, 1) := by decide +kernel
theorem dX0_workedOutWith_32 : decode cX0_workedOutWith 32 = .ok (.ishl, 1) := by decide +kernel
theorem dX0_workedOutWith_33 : decode cX0_workedOutWith 33 = .ok (.ior, 1) := by decide +kernel
theorem dX0_workedOutWith_34 : decode cX0_workedOutWith 34 = .ok (.istore_n 2, 1) := by decide +kernel
theorem dX0_workedOutWith_35 : decode cX0_workedOutWith 35 = .ok (.iinc 3 1, 3) := by decide +kernel
theorem dX0_workedOutWith_38 : decode cX0_workedOutWith 38 = .ok (.goto (-34), 3) := by decide +kernel
theorem dX0_workedOutWith_41 : decode cX0_workedOutWith 41 = .ok (.iload_n 2, 1) := by decide +kernel
theorem dX0_workedOutWith_42 : decode cX0_workedOutWith 42 = .ok (.ireturn, 1) := by decide +kernel
theorem dX1_init_0 : decode cX1_init 0 = .ok (.aload_n 0, 1) := by decide +kernel
theorem dX1_init_1 : decode cX1_init 1 = .ok (.invokespecial 3, 3) := by decide +kernel
theorem dX1_init_4 : decode cX1_init 4 = .ok (.aload_n 0, 1) := by decide +kernel
theorem dX1_init_5 : decode cX1_init 5 = .ok (.iload_n 1, 1) := by decide +kernel
theorem dX1_init_6 : decode cX1_init 6 = .ok (.putfield 9, 3) := by decide +kernel
theorem dX1_init_9 : decode cX1_init 9 = .ok (.aload_n 0, 1) := by decide +kernel
theorem dX1_init_10 : decode cX1_init 10 = .ok (.bipush 52, 2) := by decide +kernel
theorem dX1_init_12 : decode cX1_init 12 = .ok (.newarray .int, 2) := by decide +kernel
theorem dX1_init_14 : decode cX1_init 14 = .ok (.putfield 15, 3) := by decide +kernel
theorem dX1_init_17 : decode cX1_init 17 = .ok (.aload_n 0, 1) := by decide +kernel
theorem dX1_init_18 : decode cX1_init 18 = .ok (.new 19, 3) := by decide +kernel
theorem dX1_init_21 : decode cX1_init 21 = .ok (.dup, 1) := by decide +kernel
theorem dX1_init_22 : decode cX1_init 22 = .ok (.invokespecial 21, 3) := by decide +kernel
theorem dX1_init_25 : decode cX1_init 25 = .ok (.putfield 22, 3) := by decide +kernel
theorem dX1_init_28 : decode cX1_init 28 = .ok (.return_, 1) := by decide +kernel
theorem dX1_mayHave_0 : decode cX1_mayHave 0 = .ok (.aload_n 0, 1) := by decide +kernel
theorem dX1_mayHave_1 : decode cX1_mayHave 1 = .ok (.getfield 9, 3) := by decide +kernel
theorem dX1_mayHave_4 : decode cX1_mayHave 4 = .ok (.iconst 3, 1) := by decide +kernel
theorem dX1_mayHave_5 : decode cX1_mayHave 5 = .ok (.if_icmp .eq 13, 3) := by decide +kernel
theorem dX1_mayHave_8 : decode cX1_mayHave 8 = .ok (.iload_n 1, 1) := by decide +kernel
theorem dX1_mayHave_9 : decode cX1_mayHave 9 = .ok (.invokestatic 26, 3) := by decide +kernel
theorem dX1_mayHave_12 : decode cX1_mayHave 12 = .ok (.iconst 1, 1) := by decide +kernel
theorem dX1_mayHave_13 : decode cX1_mayHave 13 = .ok (.if_icmp .eq 5, 3) := by decide +kernel
theorem dX1_mayHave_16 : decode cX1_mayHave 16 = .ok (.iconst 0, 1) := by decide +kernel
theorem dX1_mayHave_17 : decode cX1_mayHave 17 = .ok (.ireturn, 1) := by decide +kernel
theorem dX1_mayHave_18 : decode cX1_mayHave 18 = .ok (.iconst 0, 1) := by decide +kernel
theorem dX1_mayHave_19 : decode cX1_mayHave 19 = .ok (.istore_n 2, 1) := by decide +kernel
theorem dX1_mayHave_20 : decode cX1_mayHave 20 = .ok (.iload_n 2, 1) := by decide +kernel
theorem dX1_mayHave_21 : decode cX1_mayHave 21 = .ok (.aload_n 0, 1) := by decide +kernel
theorem dX1_mayHave_22 : decode cX1_mayHave 22 = .ok (.getfield 32, 3) := by decide +kernel
theorem dX1_mayHave_25 : decode cX1_mayHave 25 = .ok (.if_icmp .ge 21, 3) := by decide +kernel
theorem dX1_mayHave_28 : decode cX1_mayHave 28 = .ok (.aload_n 0, 1) := by decide +kernel
theorem dX1_mayHave_29 : decode cX1_mayHave 29 = .ok (.getfield 15, 3) := by decide +kernel
theorem dX1_mayHave_32 : decode cX1_mayHave 32 = .ok (.iload_n 2, 1) := by decide +kernel
theorem dX1_mayHave_33 : decode cX1_mayHave 33 = .ok (.iaload, 1) := by decide +kernel
theorem dX1_mayHave_34 : decode cX1_mayHave 34 = .ok (.iload_n 1, 1) := by decide +kernel
theorem dX1_mayHave_35 : decode cX1_mayHave 35 = .ok (.if_icmp .ne 5, 3) := by decide +kernel
theorem dX1_mayHave_38 : decode cX1_mayHave 38 = .ok (.iconst 0, 1) := by decide +kernel
theorem dX1_mayHave_39 : decode cX1_mayHave 39 = .ok (.ireturn, 1) := by decide +kernel
theorem dX1_mayHave_40 : decode cX1_mayHave 40 = .ok (.iinc 2 1, 3) := by decide +kernel
theorem dX1_mayHave_43 : decode cX1_mayHave 43 = .ok (.goto (-23), 3) := by decide +kernel
theorem dX1_mayHave_46 : decode cX1_mayHave 46 = .ok (.iconst 1, 1) := by decide +kernel
theorem dX1_mayHave_47 : decode cX1_mayHave 47 = .ok (.ireturn, 1) := by decide +kernel
theorem dX1_getSum_0 : decode cX1_getSum 0 = .ok (.aload_n 0, 1) := by decide +kernel
theorem dX1_getSum_1 : decode cX1_getSum 1 = .ok (.iload_n 1, 1) := by decide +kernel
theorem dX1_getSum_2 : decode cX1_getSum 2 = .ok (.invokevirtual 35, 3) := by decide +kernel
theorem dX1_getSum_5 : decode cX1_getSum 5 = .ok (.pop, 1) := by decide +kernel
theorem dX1_getSum_6 : decode cX1_getSum 6 = .ok (.aload_n 0, 1) := by decide +kernel
theorem dX1_getSum_7 : decode cX1_getSum 7 = .ok (.dup, 1) := by decide +kernel
theorem dX1_getSum_8 : decode cX1_getSum 8 = .ok (.getfield 32, 3) := by decide +kernel
theorem dX1_getSum_11 : decode cX1_getSum 11 = .ok (.iconst 1, 1) := by decide +kernel
theorem dX1_getSum_12 : decode cX1_getSum 12 = .ok (.iadd, 1) := by decide +kernel
theorem dX1_getSum_13 : decode cX1_getSum 13 = .ok (.putfield 32, 3) := by decide +kernel
theorem dX1_getSum_16 : decode cX1_getSum 16 = .ok (.iload_n 1, 1) := by decide +kernel
theorem dX1_getSum_17 : decode cX1_getSum 17 = .ok (.invokestatic 26, 3) := by decide +kernel
theorem dX1_getSum_20 : decode cX1_getSum 20 = .ok (.iconst 1, 1) := by decide +kernel
theorem dX1_getSum_21 : decode cX1_getSum 21 = .ok (.if_icmp .ne 13, 3) := by decide +kernel
theorem dX1_getSum_24 : decode cX1_getSum 24 = .ok (.aload_n 0, 1) := by decide +kernel
theorem dX1_getSum_25 : decode cX1_getSum 25 = .ok (.dup, 1) := by decide +kernel
theorem dX1_getSum_26 : decode cX1_getSum 26 = .ok (.getfield 39, 3) := by decide +kernel
theorem dX1_getSum_29 : decode cX1_getSum 29 = .ok (.iload_n 1, 1) := by decide +kernel
theorem dX1_getSum_30 : decode cX1_getSum 30 = .ok (.ior, 1) := by decide +kernel
theorem dX1_getSum_31 : decode cX1_getSum 31 = .ok (.putfield 39, 3) := by decide +kernel
theorem dX1_getSum_34 : decode cX1_getSum 34 = .ok (.return_, 1) := by decide +kernel
theorem dX1_hear_0 : decode cX1_hear 0 = .ok (.aload_n 0, 1) := by decide +kernel
theorem dX1_hear_1 : decode cX1_hear 1 = .ok (.dup, 1) := by decide +kernel
theorem dX1_hear_2 : decode cX1_hear 2 = .ok (.getfield 42, 3) := by decide +kernel
theorem dX1_hear_5 : decode cX1_hear 5 = .ok (.lconst 1, 1) := by decide +kernel
theorem dX1_hear_6 : decode cX1_hear 6 = .ok (.iload_n 2, 1) := by decide +kernel
theorem dX1_hear_7 : decode cX1_hear 7 = .ok (.lshl, 1) := by decide +kernel
theorem dX1_hear_8 : decode cX1_hear 8 = .ok (.lor, 1) := by decide +kernel
theorem dX1_hear_9 : decode cX1_hear 9 = .ok (.putfield 42, 3) := by decide +kernel
theorem dX1_hear_12 : decode cX1_hear 12 = .ok (.aload_n 0, 1) := by decide +kernel
theorem dX1_hear_13 : decode cX1_hear 13 = .ok (.iload_n 1, 1) := by decide +kernel
theorem dX1_hear_14 : decode cX1_hear 14 = .ok (.invokevirtual 35, 3) := by decide +kernel
theorem dX1_hear_17 : decode cX1_hear 17 = .ok (.ireturn, 1) := by decide +kernel
theorem dX1_addRow_0 : decode cX1_addRow 0 = .ok (.aload_n 0, 1) := by decide +kernel
theorem dX1_addRow_1 : decode cX1_addRow 1 = .ok (.getfield 46, 3) := by decide +kernel
theorem dX1_addRow_4 : decode cX1_addRow 4 = .ok (.aload_n 0, 1) := by decide +kernel
theorem dX1_addRow_5 : decode cX1_addRow 5 = .ok (.getfield 15, 3) := by decide +kernel
theorem dX1_addRow_8 : decode cX1_addRow 8 = .ok (.arraylength, 1) := by decide +kernel
theorem dX1_addRow_9 : decode cX1_addRow 9 = .ok (.if_icmp .lt 5, 3) := by decide +kernel
theorem dX1_addRow_12 : decode cX1_addRow 12 = .ok (.iconst 0, 1) := by decide +kernel
theorem dX1_addRow_13 : decode cX1_addRow 13 = .ok (.ireturn, 1) := by decide +kernel
theorem dX1_addRow_14 : decode cX1_addRow 14 = .ok (.aload_n 0, 1) := by decide +kernel
theorem dX1_addRow_15 : decode cX1_addRow 15 = .ok (.getfield 15, 3) := by decide +kernel
theorem dX1_addRow_18 : decode cX1_addRow 18 = .ok (.aload_n 0, 1) := by decide +kernel
theorem dX1_addRow_19 : decode cX1_addRow 19 = .ok (.getfield 46, 3) := by decide +kernel
theorem dX1_addRow_22 : decode cX1_addRow 22 = .ok (.iload_n 1, 1) := by decide +kernel
theorem dX1_addRow_23 : decode cX1_addRow 23 = .ok (.iastore, 1) := by decide +kernel
theorem dX1_addRow_24 : decode cX1_addRow 24 = .ok (.aload_n 0, 1) := by decide +kernel
theorem dX1_addRow_25 : decode cX1_addRow 25 = .ok (.dup, 1) := by decide +kernel
theorem dX1_addRow_26 : decode cX1_addRow 26 = .ok (.getfield 46, 3) := by decide +kernel
theorem dX1_addRow_29 : decode cX1_addRow 29 = .ok (.iconst 1, 1) := by decide +kernel
theorem dX1_addRow_30 : decode cX1_addRow 30 = .ok (.iadd, 1) := by decide +kernel
theorem dX1_addRow_31 : decode cX1_addRow 31 = .ok (.putfield 46, 3) := by decide +kernel
theorem dX1_addRow_34 : decode cX1_addRow 34 = .ok (.aload_n 0, 1) := by decide +kernel
theorem dX1_addRow_35 : decode cX1_addRow 35 = .ok (.getfield 22, 3) := by decide +kernel
theorem dX1_addRow_38 : decode cX1_addRow 38 = .ok (.iload_n 1, 1) := by decide +kernel
theorem dX1_addRow_39 : decode cX1_addRow 39 = .ok (.lconst 1, 1) := by decide +kernel
theorem dX1_addRow_40 : decode cX1_addRow 40 = .ok (.aload_n 0, 1) := by decide +kernel
theorem dX1_addRow_41 : decode cX1_addRow 41 = .ok (.getfield 46, 3) := by decide +kernel
theorem dX1_addRow_44 : decode cX1_addRow 44 = .ok (.iconst 1, 1) := by decide +kernel
theorem dX1_addRow_45 : decode cX1_addRow 45 = .ok (.isub, 1) := by decide +kernel
theorem dX1_addRow_46 : decode cX1_addRow 46 = .ok (.lshl, 1) := by decide +kernel
theorem dX1_addRow_47 : decode cX1_addRow 47 = .ok (.invokevirtual 49, 3) := by decide +kernel
theorem dX1_addRow_50 : decode cX1_addRow 50 = .ok (.ireturn, 1) := by decide +kernel
theorem dX1_isEvenInAllRows_0 : decode cX1_isEvenInAllRows 0 = .ok (.iconst 0, 1) := by decide +kernel
theorem dX1_isEvenInAllRows_1 : decode cX1_isEvenInAllRows 1 = .ok (.istore_n 2, 1) := by decide +kernel
theorem dX1_isEvenInAllRows_2 : decode cX1_isEvenInAllRows 2 = .ok (.iload_n 2, 1) := by decide +kernel
theorem dX1_isEvenInAllRows_3 : decode cX1_isEvenInAllRows 3 = .ok (.aload_n 0, 1) := by decide +kernel
theorem dX1_isEvenInAllRows_4 : decode cX1_isEvenInAllRows 4 = .ok (.getfield 46, 3) := by decide +kernel
theorem dX1_isEvenInAllRows_7 : decode cX1_isEvenInAllRows 7 = .ok (.if_icmp .ge 27, 3) := by decide +kernel
theorem dX1_isEvenInAllRows_10 : decode cX1_isEvenInAllRows 10 = .ok (.aload_n 0, 1) := by decide +kernel
theorem dX1_isEvenInAllRows_11 : decode cX1_isEvenInAllRows 11 = .ok (.getfield 15, 3) := by decide +kernel
theorem dX1_isEvenInAllRows_14 : decode cX1_isEvenInAllRows 14 = .ok (.iload_n 2, 1) := by decide +kernel
theorem dX1_isEvenInAllRows_15 : decode cX1_isEvenInAllRows 15 = .ok (.iaload, 1) := by decide +kernel
theorem dX1_isEvenInAllRows_16 : decode cX1_isEvenInAllRows 16 = .ok (.iload_n 1, 1) := by decide +kernel
theorem dX1_isEvenInAllRows_17 : decode cX1_isEvenInAllRows 17 = .ok (.iand, 1) := by decide +kernel
theorem dX1_isEvenInAllRows_18 : decode cX1_isEvenInAllRows 18 = .ok (.invokestatic 26, 3) := by decide +kernel
theorem dX1_isEvenInAllRows_21 : decode cX1_isEvenInAllRows 21 = .ok (.iconst 1, 1) := by decide +kernel
theorem dX1_isEvenInAllRows_22 : decode cX1_isEvenInAllRows 22 = .ok (.iand, 1) := by decide +kernel
theorem dX1_isEvenInAllRows_23 : decode cX1_isEvenInAllRows 23 = .ok (.ifCond .eq 5, 3) := by decide +kernel
theorem dX1_isEvenInAllRows_26 : decode cX1_isEvenInAllRows 26 = .ok (.iconst 0, 1) := by decide +kernel
theorem dX1_isEvenInAllRows_27 : decode cX1_isEvenInAllRows 27 = .ok (.ireturn, 1) := by decide +kernel
theorem dX1_isEvenInAllRows_28 : decode cX1_isEvenInAllRows 28 = .ok (.iinc 2 1, 3) := by decide +kernel
theorem dX1_isEvenInAllRows_31 : decode cX1_isEvenInAllRows 31 = .ok (.goto (-29), 3) := by decide +kernel
theorem dX1_isEvenInAllRows_34 : decode cX1_isEvenInAllRows 34 = .ok (.iconst 1, 1) := by decide +kernel
theorem dX1_isEvenInAllRows_35 : decode cX1_isEvenInAllRows 35 = .ok (.ireturn, 1) := by decide +kernel
theorem dX1_isServedBy_0 : decode cX1_isServedBy 0 = .ok (.aload_n 0, 1) := by decide +kernel
theorem dX1_isServedBy_1 : decode cX1_isServedBy 1 = .ok (.aload_n 1, 1) := by decide +kernel
theorem dX1_isServedBy_2 : decode cX1_isServedBy 2 = .ok (.invokevirtual 53, 3) := by decide +kernel
theorem dX1_isServedBy_5 : decode cX1_isServedBy 5 = .ok (.iload_n 2, 1) := by decide +kernel
theorem dX1_isServedBy_6 : decode cX1_isServedBy 6 = .ok (.invokevirtual 57, 3) := by decide +kernel
theorem dX1_isServedBy_9 : decode cX1_isServedBy 9 = .ok (.ireturn, 1) := by decide +kernel
theorem dX1_wouldBeServedBy_0 : decode cX1_wouldBeServedBy 0 = .ok (.aload_n 0, 1) := by decide +kernel
theorem dX1_wouldBeServedBy_1 : decode cX1_wouldBeServedBy 1 = .ok (.aload_n 0, 1) := by decide +kernel
theorem dX1_wouldBeServedBy_2 : decode cX1_wouldBeServedBy 2 = .ok (.getfield 22, 3) := by decide +kernel
theorem dX1_wouldBeServedBy_5 : decode cX1_wouldBeServedBy 5 = .ok (.iload_n 1, 1) := by decide +kernel
theorem dX1_wouldBeServedBy_6 : decode cX1_wouldBeServedBy 6 = .ok (.invokevirtual 61, 3) := by decide +kernel
theorem dX1_wouldBeServedBy_9 : decode cX1_wouldBeServedBy 9 = .ok (.iload_n 2, 1) := by decide +kernel
theorem dX1_wouldBeServedBy_10 : decode cX1_wouldBeServedBy 10 = .ok (.invokevirtual 57, 3) := by decide +kernel
theorem dX1_wouldBeServedBy_13 : decode cX1_wouldBeServedBy 13 = .ok (.ireturn, 1) := by decide +kernel
theorem dX1_isServedWith_0 : decode cX1_isServedWith 0 = .ok (.aload_n 0, 1) := by decide +kernel
theorem dX1_isServedWith_1 : decode cX1_isServedWith 1 = .ok (.getfield 9, 3) := by decide +kernel
theorem dX1_isServedWith_4 : decode cX1_isServedWith 4 = .ok (.iconst 2, 1) := by decide +kernel
theorem dX1_isServedWith_5 : decode cX1_isServedWith 5 = .ok (.if_icmp .ne 28, 3) := by decide +kernel
theorem dX1_isServedWith_8 : decode cX1_isServedWith 8 = .ok (.aload_n 0, 1) := by decide +kernel
theorem dX1_isServedWith_9 : decode cX1_isServedWith 9 = .ok (.getfield 39, 3) := by decide +kernel
theorem dX1_isServedWith_12 : decode cX1_isServedWith 12 = .ok (.iload_n 2, 1) := by decide +kernel
theorem dX1_isServedWith_13 : decode cX1_isServedWith 13 = .ok (.if_icmp .eq 14, 3) := by decide +kernel
theorem dX1_isServedWith_16 : decode cX1_isServedWith 16 = .ok (.iload_n 1, 1) := by decide +kernel
theorem dX1_isServedWith_17 : decode cX1_isServedWith 17 = .ok (.aload_n 0, 1) := by decide +kernel
theorem dX1_isServedWith_18 : decode cX1_isServedWith 18 = .ok (.getfield 39, 3) := by decide +kernel
theorem dX1_isServedWith_21 : decode cX1_isServedWith 21 = .ok (.iconst (-1), 1) := by decide +kernel
theorem dX1_isServedWith_22 : decode cX1_isServedWith 22 = .ok (.ixor, 1) := by decide +kernel
theorem dX1_isServedWith_23 : decode cX1_isServedWith 23 = .ok (.iand, 1) := by decide +kernel
theorem dX1_isServedWith_24 : decode cX1_isServedWith 24 = .ok (.ifCond .eq 7, 3) := by decide +kernel
theorem dX1_isServedWith_27 : decode cX1_isServedWith 27 = .ok (.iconst 1, 1) := by decide +kernel
theorem dX1_isServedWith_28 : decode cX1_isServedWith 28 = .ok (.goto 4, 3) := by decide +kernel
theorem dX1_isServedWith_31 : decode cX1_isServedWith 31 = .ok (.iconst 0, 1) := by decide +kernel
theorem dX1_isServedWith_32 : decode cX1_isServedWith 32 = .ok (.ireturn, 1) := by decide +kernel
theorem dX1_isServedWith_33 : decode cX1_isServedWith 33 = .ok (.aload_n 0, 1) := by decide +kernel
theorem dX1_isServedWith_34 : decode cX1_isServedWith 34 = .ok (.getfield 64, 3) := by decide +kernel
theorem dX1_isServedWith_37 : decode cX1_isServedWith 37 = .ok (.iload_n 1, 1) := by decide +kernel
theorem dX1_isServedWith_38 : decode cX1_isServedWith 38 = .ok (.iconst (-1), 1) := by decide +kernel
theorem dX1_isServedWith_39 : decode cX1_isServedWith 39 = .ok (.ixor, 1) := by decide +kernel
theorem dX1_isServedWith_40 : decode cX1_isServedWith 40 = .ok (.iand, 1) := by decide +kernel
theorem dX1_isServedWith_41 : decode cX1_isServedWith 41 = .ok (.ifCond .ne 7, 3) := by decide +kernel
theorem dX1_isServedWith_44 : decode cX1_isServedWith 44 = .ok (.iconst 1, 1) := by decide +kernel
theorem dX1_isServedWith_45 : decode cX1_isServedWith 45 = .ok (.goto 4, 3) := by decide +kernel
theorem dX1_isServedWith_48 : decode cX1_isServedWith 48 = .ok (.iconst 0, 1) := by decide +kernel
theorem dX1_isServedWith_49 : decode cX1_isServedWith 49 = .ok (.ireturn, 1) := by decide +kernel
theorem dX2_init_0 : decode cX2_init 0 = .ok (.aload_n 0, 1) := by decide +kernel
theorem dX2_init_1 : decode cX2_init 1 = .ok (.invokespecial 3, 3) := by decide +kernel
theorem dX2_init_4 : decode cX2_init 4 = .ok (.aload_n 0, 1) := by decide +kernel
theorem dX2_init_5 : decode cX2_init 5 = .ok (.bipush 100, 2) := by decide +kernel
theorem dX2_init_7 : decode cX2_init 7 = .ok (.newarray .int, 2) := by decide +kernel
theorem dX2_init_9 : decode cX2_init 9 = .ok (.putfield 9, 3) := by decide +kernel
theorem dX2_init_12 : decode cX2_init 12 = .ok (.aload_n 0, 1) := by decide +kernel
theorem dX2_init_13 : decode cX2_init 13 = .ok (.bipush 100, 2) := by decide +kernel
theorem dX2_init_15 : decode cX2_init 15 = .ok (.newarray .int, 2) := by decide +kernel
theorem dX2_init_17 : decode cX2_init 17 = .ok (.putfield 15, 3) := by decide +kernel
theorem dX2_init_20 : decode cX2_init 20 = .ok (.aload_n 0, 1) := by decide +kernel
theorem dX2_init_21 : decode cX2_init 21 = .ok (.bipush 100, 2) := by decide +kernel
theorem dX2_init_23 : decode cX2_init 23 = .ok (.newarray .int, 2) := by decide +kernel
theorem dX2_init_25 : decode cX2_init 25 = .ok (.putfield 18, 3) := by decide +kernel
theorem dX2_init_28 : decode cX2_init 28 = .ok (.aload_n 0, 1) := by decide +kernel
theorem dX2_init_29 : decode cX2_init 29 = .ok (.bipush 10, 2) := by decide +kernel
theorem dX2_init_31 : decode cX2_init 31 = .ok (.newarray .int, 2) := by decide +kernel
theorem dX2_init_33 : decode cX2_init 33 = .ok (.putfield 21, 3) := by decide +kernel
theorem dX2_init_36 : decode cX2_init 36 = .ok (.aload_n 0, 1) := by decide +kernel
theorem dX2_init_37 : decode cX2_init 37 = .ok (.sipush 1024, 3) := by decide +kernel
theorem dX2_init_40 : decode cX2_init 40 = .ok (.newarray .int, 2) := by decide +kernel
theorem dX2_init_42 : decode cX2_init 42 = .ok (.putfield 24, 3) := by decide +kernel
theorem dX2_init_45 : decode cX2_init 45 = .ok (.return_, 1) := by decide +kernel
theorem dX2_put_0 : decode cX2_put 0 = .ok (.aload_n 0, 1) := by decide +kernel
theorem dX2_put_1 : decode cX2_put 1 = .ok (.getfield 27, 3) := by decide +kernel
theorem dX2_put_4 : decode cX2_put 4 = .ok (.aload_n 0, 1) := by decide +kernel
theorem dX2_put_5 : decode cX2_put 5 = .ok (.getfield 9, 3) := by decide +kernel
theorem dX2_put_8 : decode cX2_put 8 = .ok (.arraylength, 1) := by decide +kernel
theorem dX2_put_9 : decode cX2_put 9 = .ok (.if_icmp .ge 43, 3) := by decide +kernel
theorem dX2_put_12 : decode cX2_put 12 = .ok (.aload_n 0, 1) := by decide +kernel
theorem dX2_put_13 : decode cX2_put 13 = .ok (.getfield 9, 3) := by decide +kernel
theorem dX2_put_16 : decode cX2_put 16 = .ok (.aload_n 0, 1) := by decide +kernel
theorem dX2_put_17 : decode cX2_put 17 = .ok (.getfield 27, 3) := by decide +kernel
theorem dX2_put_20 : decode cX2_put 20 = .ok (.iload_n 1, 1) := by decide +kernel
theorem dX2_put_21 : decode cX2_put 21 = .ok (.iastore, 1) := by decide +kernel
theorem dX2_put_22 : decode cX2_put 22 = .ok (.aload_n 0, 1) := by decide +kernel
theorem dX2_put_23 : decode cX2_put 23 = .ok (.getfield 15, 3) := by decide +kernel
theorem dX2_put_26 : decode cX2_put 26 = .ok (.aload_n 0, 1) := by decide +kernel
theorem dX2_put_27 : decode cX2_put 27 = .ok (.getfield 27, 3) := by decide +kernel
theorem dX2_put_30 : decode cX2_put 30 = .ok (.iload_n 2, 1) := by decide +kernel
theorem dX2_put_31 : decode cX2_put 31 = .ok (.iastore, 1) := by decide +kernel
theorem dX2_put_32 : decode cX2_put 32 = .ok (.aload_n 0, 1) := by decide +kernel
theorem dX2_put_33 : decode cX2_put 33 = .ok (.getfield 18, 3) := by decide +kernel
theorem dX2_put_36 : decode cX2_put 36 = .ok (.aload_n 0, 1) := by decide +kernel
theorem dX2_put_37 : decode cX2_put 37 = .ok (.getfield 27, 3) := by decide +kernel
theorem dX2_put_40 : decode cX2_put 40 = .ok (.iload_n 3, 1) := by decide +kernel
theorem dX2_put_41 : decode cX2_put 41 = .ok (.iastore, 1) := by decide +kernel
theorem dX2_put_42 : decode cX2_put 42 = .ok (.aload_n 0, 1) := by decide +kernel
theorem dX2_put_43 : decode cX2_put 43 = .ok (.dup, 1) := by decide +kernel
theorem dX2_put_44 : decode cX2_put 44 = .ok (.getfield 27, 3) := by decide +kernel
theorem dX2_put_47 : decode cX2_put 47 = .ok (.iconst 1, 1) := by decide +kernel
theorem dX2_put_48 : decode cX2_put 48 = .ok (.iadd, 1) := by decide +kernel
theorem dX2_put_49 : decode cX2_put 49 = .ok (.putfield 27, 3) := by decide +kernel
theorem dX2_put_52 : decode cX2_put 52 = .ok (.return_, 1) := by decide +kernel
theorem dX2_canBeSorted_0 : decode cX2_canBeSorted 0 = .ok (.aload_n 0, 1) := by decide +kernel
theorem dX2_canBeSorted_1 : decode cX2_canBeSorted 1 = .ok (.getfield 27, 3) := by decide +kernel
theorem dX2_canBeSorted_4 : decode cX2_canBeSorted 4 = .ok (.bipush 10, 2) := by decide +kernel
theorem dX2_canBeSorted_6 : decode cX2_canBeSorted 6 = .ok (.if_icmp .gt 7, 3) := by decide +kernel
theorem dX2_canBeSorted_9 : decode cX2_canBeSorted 9 = .ok (.iconst 1, 1) := by decide +kernel
theorem dX2_canBeSorted_10 : decode cX2_canBeSorted 10 = .ok (.goto 4, 3) := by decide +kernel
theorem dX2_canBeSorted_13 : decode cX2_canBeSorted 13 = .ok (.iconst 0, 1) := by decide +kernel
theorem dX2_canBeSorted_14 : decode cX2_canBeSorted 14 = .ok (.ireturn, 1) := by decide +kernel
theorem dX2_longestOrder_0 : decode cX2_longestOrder 0 = .ok (.aload_n 0, 1) := by decide +kernel
theorem dX2_longestOrder_1 : decode cX2_longestOrder 1 = .ok (.invokevirtual 31, 3) := by decide +kernel
theorem dX2_longestOrder_4 : decode cX2_longestOrder 4 = .ok (.aload_n 0, 1) := by decide +kernel
theorem dX2_longestOrder_5 : decode cX2_longestOrder 5 = .ok (.getfield 24, 3) := by decide +kernel
theorem dX2_longestOrder_8 : decode cX2_longestOrder 8 = .ok (.aload_n 0, 1) := by decide +kernel
theorem dX2_longestOrder_9 : decode cX2_longestOrder 9 = .ok (.invokevirtual 34, 3) := by decide +kernel
theorem dX2_longestOrder_12 : decode cX2_longestOrder 12 = .ok (.iaload, 1) := by decide +kernel
theorem dX2_longestOrder_13 : decode cX2_longestOrder 13 = .ok (.ireturn, 1) := by decide +kernel
theorem dX2_inTheOrder_0 : decode cX2_inTheOrder 0 = .ok (.iload_n 1, 1) := by decide +kernel
theorem dX2_inTheOrder_1 : decode cX2_inTheOrder 1 = .ok (.ifCond .lt 11, 3) := by decide +kernel
theorem dX2_inTheOrder_4 : decode cX2_inTheOrder 4 = .ok (.iload_n 1, 1) := by decide +kernel
theorem dX2_inTheOrder_5 : decode cX2_inTheOrder 5 = .ok (.aload_n 0, 1) := by decide +kernel
theorem dX2_inTheOrder_6 : decode cX2_inTheOrder 6 = .ok (.invokevirtual 38, 3) := by decide +kernel
theorem dX2_inTheOrder_9 : decode cX2_inTheOrder 9 = .ok (.if_icmp .lt 5, 3) := by decide +kernel
theorem dX2_inTheOrder_12 : decode cX2_inTheOrder 12 = .ok (.iconst (-1), 1) := by decide +kernel
theorem dX2_inTheOrder_13 : decode cX2_inTheOrder 13 = .ok (.ireturn, 1) := by decide +kernel
theorem dX2_inTheOrder_14 : decode cX2_inTheOrder 14 = .ok (.aload_n 0, 1) := by decide +kernel
theorem dX2_inTheOrder_15 : decode cX2_inTheOrder 15 = .ok (.invokevirtual 34, 3) := by decide +kernel
theorem dX2_inTheOrder_18 : decode cX2_inTheOrder 18 = .ok (.istore_n 2, 1) := by decide +kernel
theorem dX2_inTheOrder_19 : decode cX2_inTheOrder 19 = .ok (.iconst 0, 1) := by decide +kernel
theorem dX2_inTheOrder_20 : decode cX2_inTheOrder 20 = .ok (.istore_n 3, 1) := by decide +kernel
theorem dX2_inTheOrder_21 : decode cX2_inTheOrder 21 = .ok (.iload_n 3, 1) := by decide +kernel
theorem dX2_inTheOrder_22 : decode cX2_inTheOrder 22 = .ok (.iload_n 1, 1) := by decide +kernel
theorem dX2_inTheOrder_23 : decode cX2_inTheOrder 23 = .ok (.if_icmp .ge 22, 3) := by decide +kernel
theorem dX2_inTheOrder_26 : decode cX2_inTheOrder 26 = .ok (.iload_n 2, 1) := by decide +kernel
theorem dX2_inTheOrder_27 : decode cX2_inTheOrder 27 = .ok (.aload_n 0, 1) := by decide +kernel
theorem dX2_inTheOrder_28 : decode cX2_inTheOrder 28 = .ok (.getfield 21, 3) := by decide +kernel
theorem dX2_inTheOrder_31 : decode cX2_inTheOrder 31 = .ok (.aload_n 0, 1) := by decide +kernel
theorem dX2_inTheOrder_32 : decode cX2_inTheOrder 32 = .ok (.iload_n 2, 1) := by decide +kernel
theorem dX2_inTheOrder_33 : decode cX2_inTheOrder 33 = .ok (.invokevirtual 41, 3) := by decide +kernel
theorem dX2_inTheOrder_36 : decode cX2_inTheOrder 36 = .ok (.iaload, 1) := by decide +kernel
theorem dX2_inTheOrder_37 : decode cX2_inTheOrder 37 = .ok (.iand, 1) := by decide +kernel
theorem dX2_inTheOrder_38 : decode cX2_inTheOrder 38 = .ok (.istore_n 2, 1) := by decide +kernel
theorem dX2_inTheOrder_39 : decode cX2_inTheOrder 39 = .ok (.iinc 3 1, 3) := by decide +kernel
theorem dX2_inTheOrder_42 : decode cX2_inTheOrder 42 = .ok (.goto (-21), 3) := by decide +kernel
theorem dX2_inTheOrder_45 : decode cX2_inTheOrder 45 = .ok (.aload_n 0, 1) := by decide +kernel
theorem dX2_inTheOrder_46 : decode cX2_inTheOrder 46 = .ok (.iload_n 2, 1) := by decide +kernel
theorem dX2_inTheOrder_47 : decode cX2_inTheOrder 47 = .ok (.invokevirtual 41, 3) := by decide +kernel
theorem dX2_inTheOrder_50 : decode cX2_inTheOrder 50 = .ok (.ireturn, 1) := by decide +kernel
theorem dX2_fewestGroups_0 : decode cX2_fewestGroups 0 = .ok (.aload_n 0, 1) := by decide +kernel
theorem dX2_fewestGroups_1 : decode cX2_fewestGroups 1 = .ok (.invokevirtual 45, 3) := by decide +kernel
theorem dX2_fewestGroups_4 : decode cX2_fewestGroups 4 = .ok (.aload_n 0, 1) := by decide +kernel
theorem dX2_fewestGroups_5 : decode cX2_fewestGroups 5 = .ok (.getfield 24, 3) := by decide +kernel
theorem dX2_fewestGroups_8 : decode cX2_fewestGroups 8 = .ok (.aload_n 0, 1) := by decide +kernel
theorem dX2_fewestGroups_9 : decode cX2_fewestGroups 9 = .ok (.invokevirtual 34, 3) := by decide +kernel
theorem dX2_fewestGroups_12 : decode cX2_fewestGroups 12 = .ok (.iaload, 1) := by decide +kernel
theorem dX2_fewestGroups_13 : decode cX2_fewestGroups 13 = .ok (.ireturn, 1) := by decide +kernel
theorem dX2_inTheGroups_0 : decode cX2_inTheGroups 0 = .ok (.iload_n 1, 1) := by decide +kernel
theorem dX2_inTheGroups_1 : decode cX2_inTheGroups 1 = .ok (.ifCond .lt 11, 3) := by decide +kernel
theorem dX2_inTheGroups_4 : decode cX2_inTheGroups 4 = .ok (.iload_n 1, 1) := by decide +kernel
theorem dX2_inTheGroups_5 : decode cX2_inTheGroups 5 = .ok (.aload_n 0, 1) := by decide +kernel
theorem dX2_inTheGroups_6 : decode cX2_inTheGroups 6 = .ok (.invokevirtual 48, 3) := by decide +kernel
theorem dX2_inTheGroups_9 : decode cX2_inTheGroups 9 = .ok (.if_icmp .lt 5, 3) := by decide +kernel
theorem dX2_inTheGroups_12 : decode cX2_inTheGroups 12 = .ok (.iconst (-1), 1) := by decide +kernel
theorem dX2_inTheGroups_13 : decode cX2_inTheGroups 13 = .ok (.ireturn, 1) := by decide +kernel
theorem dX2_inTheGroups_14 : decode cX2_inTheGroups 14 = .ok (.aload_n 0, 1) := by decide +kernel
theorem dX2_inTheGroups_15 : decode cX2_inTheGroups 15 = .ok (.invokevirtual 34, 3) := by decide +kernel
theorem dX2_inTheGroups_18 : decode cX2_inTheGroups 18 = .ok (.istore_n 2, 1) := by decide +kernel
theorem dX2_inTheGroups_19 : decode cX2_inTheGroups 19 = .ok (.iconst 0, 1) := by decide +kernel
theorem dX2_inTheGroups_20 : decode cX2_inTheGroups 20 = .ok (.istore_n 3, 1) := by decide +kernel
theorem dX2_inTheGroups_21 : decode cX2_inTheGroups 21 = .ok (.iload_n 3, 1) := by decide +kernel
theorem dX2_inTheGroups_22 : decode cX2_inTheGroups 22 = .ok (.iload_n 1, 1) := by decide +kernel
theorem dX2_inTheGroups_23 : decode cX2_inTheGroups 23 = .ok (.if_icmp .ge 19, 3) := by decide +kernel
theorem dX2_inTheGroups_26 : decode cX2_inTheGroups 26 = .ok (.iload_n 2, 1) := by decide +kernel
theorem dX2_inTheGroups_27 : decode cX2_inTheGroups 27 = .ok (.aload_n 0, 1) := by decide +kernel
theorem dX2_inTheGroups_28 : decode cX2_inTheGroups 28 = .ok (.iload_n 2, 1) := by decide +kernel
theorem dX2_inTheGroups_29 : decode cX2_inTheGroups 29 = .ok (.invokevirtual 51, 3) := by decide +kernel
theorem dX2_inTheGroups_32 : decode cX2_inTheGroups 32 = .ok (.iconst (-1), 1) := by decide +kernel
theorem dX2_inTheGroups_33 : decode cX2_inTheGroups 33 = .ok (.ixor, 1) := by decide +kernel
theorem dX2_inTheGroups_34 : decode cX2_inTheGroups 34 = .ok (.iand, 1) := by decide +kernel
theorem dX2_inTheGroups_35 : decode cX2_inTheGroups 35 = .ok (.istore_n 2, 1) := by decide +kernel
theorem dX2_inTheGroups_36 : decode cX2_inTheGroups 36 = .ok (.iinc 3 1, 3) := by decide +kernel
theorem dX2_inTheGroups_39 : decode cX2_inTheGroups 39 = .ok (.goto (-18), 3) := by decide +kernel
theorem dX2_inTheGroups_42 : decode cX2_inTheGroups 42 = .ok (.aload_n 0, 1) := by decide +kernel
theorem dX2_inTheGroups_43 : decode cX2_inTheGroups 43 = .ok (.iload_n 2, 1) := by decide +kernel
theorem dX2_inTheGroups_44 : decode cX2_inTheGroups 44 = .ok (.invokevirtual 51, 3) := by decide +kernel
theorem dX2_inTheGroups_47 : decode cX2_inTheGroups 47 = .ok (.ireturn, 1) := by decide +kernel
theorem dX2_sortedCount_0 : decode cX2_sortedCount 0 = .ok (.aload_n 0, 1) := by decide +kernel
theorem dX2_sortedCount_1 : decode cX2_sortedCount 1 = .ok (.getfield 27, 3) := by decide +kernel
theorem dX2_sortedCount_4 : decode cX2_sortedCount 4 = .ok (.bipush 10, 2) := by decide +kernel
theorem dX2_sortedCount_6 : decode cX2_sortedCount 6 = .ok (.invokestatic 54, 3) := by decide +kernel
theorem dX2_sortedCount_9 : decode cX2_sortedCount 9 = .ok (.ireturn, 1) := by decide +kernel
theorem dX2_allNeeds_0 : decode cX2_allNeeds 0 = .ok (.iconst 1, 1) := by decide +kernel
theorem dX2_allNeeds_1 : decode cX2_allNeeds 1 = .ok (.aload_n 0, 1) := by decide +kernel
theorem dX2_allNeeds_2 : decode cX2_allNeeds 2 = .ok (.invokevirtual 60, 3) := by decide +kernel
theorem dX2_allNeeds_5 : decode cX2_allNeeds 5 = .ok (.ishl, 1) := by decide +kernel
theorem dX2_allNeeds_6 : decode cX2_allNeeds 6 = .ok (.iconst 1, 1) := by decide +kernel
theorem dX2_allNeeds_7 : decode cX2_allNeeds 7 = .ok (.isub, 1) := by decide +kernel
theorem dX2_allNeeds_8 : decode cX2_allNeeds 8 = .ok (.ireturn, 1) := by decide +kernel
theorem dX2_fillOrders_0 : decode cX2_fillOrders 0 = .ok (.iconst 0, 1) := by decide +kernel
theorem dX2_fillOrders_1 : decode cX2_fillOrders 1 = .ok (.istore_n 1, 1) := by decide +kernel
theorem dX2_fillOrders_2 : decode cX2_fillOrders 2 = .ok (.iload_n 1, 1) := by decide +kernel
theorem dX2_fillOrders_3 : decode cX2_fillOrders 3 = .ok (.aload_n 0, 1) := by decide +kernel
theorem dX2_fillOrders_4 : decode cX2_fillOrders 4 = .ok (.invokevirtual 60, 3) := by decide +kernel
theorem dX2_fillOrders_7 : decode cX2_fillOrders 7 = .ok (.if_icmp .ge 20, 3) := by decide +kernel
theorem dX2_fillOrders_10 : decode cX2_fillOrders 10 = .ok (.aload_n 0, 1) := by decide +kernel
theorem dX2_fillOrders_11 : decode cX2_fillOrders 11 = .ok (.getfield 21, 3) := by decide +kernel
theorem dX2_fillOrders_14 : decode cX2_fillOrders 14 = .ok (.iload_n 1, 1) := by decide +kernel
theorem dX2_fillOrders_15 : decode cX2_fillOrders 15 = .ok (.aload_n 0, 1) := by decide +kernel
theorem dX2_fillOrders_16 : decode cX2_fillOrders 16 = .ok (.iload_n 1, 1) := by decide +kernel
theorem dX2_fillOrders_17 : decode cX2_fillOrders 17 = .ok (.invokevirtual 63, 3) := by decide +kernel
theorem dX2_fillOrders_20 : decode cX2_fillOrders 20 = .ok (.iastore, 1) := by decide +kernel
theorem dX2_fillOrders_21 : decode cX2_fillOrders 21 = .ok (.iinc 1 1, 3) := by decide +kernel
theorem dX2_fillOrders_24 : decode cX2_fillOrders 24 = .ok (.goto (-22), 3) := by decide +kernel
theorem dX2_fillOrders_27 : decode cX2_fillOrders 27 = .ok (.aload_n 0, 1) := by decide +kernel
theorem dX2_fillOrders_28 : decode cX2_fillOrders 28 = .ok (.getfield 24, 3) := by decide +kernel
theorem dX2_fillOrders_31 : decode cX2_fillOrders 31 = .ok (.iconst 0, 1) := by decide +kernel
theorem dX2_fillOrders_32 : decode cX2_fillOrders 32 = .ok (.iconst 0, 1) := by decide +kernel
theorem dX2_fillOrders_33 : decode cX2_fillOrders 33 = .ok (.iastore, 1) := by decide +kernel
theorem dX2_fillOrders_34 : decode cX2_fillOrders 34 = .ok (.iconst 1, 1) := by decide +kernel
theorem dX2_fillOrders_35 : decode cX2_fillOrders 35 = .ok (.istore_n 1, 1) := by decide +kernel
theorem dX2_fillOrders_36 : decode cX2_fillOrders 36 = .ok (.iload_n 1, 1) := by decide +kernel
theorem dX2_fillOrders_37 : decode cX2_fillOrders 37 = .ok (.aload_n 0, 1) := by decide +kernel
theorem dX2_fillOrders_38 : decode cX2_fillOrders 38 = .ok (.invokevirtual 34, 3) := by decide +kernel
theorem dX2_fillOrders_41 : decode cX2_fillOrders 41 = .ok (.if_icmp .gt 62, 3) := by decide +kernel
theorem dX2_fillOrders_44 : decode cX2_fillOrders 44 = .ok (.iconst 0, 1) := by decide +kernel
theorem dX2_fillOrders_45 : decode cX2_fillOrders 45 = .ok (.istore_n 2, 1) := by decide +kernel
theorem dX2_fillOrders_46 : decode cX2_fillOrders 46 = .ok (.iconst 0, 1) := by decide +kernel
theorem dX2_fillOrders_47 : decode cX2_fillOrders 47 = .ok (.istore_n 3, 1) := by decide +kernel
theorem dX2_fillOrders_48 : decode cX2_fillOrders 48 = .ok (.iload_n 3, 1) := by decide +kernel
theorem dX2_fillOrders_49 : decode cX2_fillOrders 49 = .ok (.aload_n 0, 1) := by decide +kernel
theorem dX2_fillOrders_50 : decode cX2_fillOrders 50 = .ok (.invokevirtual 60, 3) := by decide +kernel
theorem dX2_fillOrders_53 : decode cX2_fillOrders 53 = .ok (.if_icmp .ge 37, 3) := by decide +kernel
theorem dX2_fillOrders_56 : decode cX2_fillOrders 56 = .ok (.iload_n 3, 1) := by decide +kernel
theorem dX2_fillOrders_57 : decode cX2_fillOrders 57 = .ok (.iload_n 1, 1) := by decide +kernel
theorem dX2_fillOrders_58 : decode cX2_fillOrders 58 = .ok (.invokestatic 66, 3) := by decide +kernel
theorem dX2_fillOrders_61 : decode cX2_fillOrders 61 = .ok (.ifCond .eq 23, 3) := by decide +kernel
theorem dX2_fillOrders_64 : decode cX2_fillOrders 64 = .ok (.iload_n 2, 1) := by decide +kernel
theorem dX2_fillOrders_65 : decode cX2_fillOrders 65 = .ok (.iconst 1, 1) := by decide +kernel
theorem dX2_fillOrders_66 : decode cX2_fillOrders 66 = .ok (.aload_n 0, 1) := by decide +kernel
theorem dX2_fillOrders_67 : decode cX2_fillOrders 67 = .ok (.getfield 24, 3) := by decide +kernel
theorem dX2_fillOrders_70 : decode cX2_fillOrders 70 = .ok (.iload_n 1, 1) := by decide +kernel
theorem dX2_fillOrders_71 : decode cX2_fillOrders 71 = .ok (.aload_n 0, 1) := by decide +kernel
theorem dX2_fillOrders_72 : decode cX2_fillOrders 72 = .ok (.getfield 21, 3) := by decide +kernel
theorem dX2_fillOrders_75 : decode cX2_fillOrders 75 = .ok (.iload_n 3, 1) := by decide +kernel
theorem dX2_fillOrders_76 : decode cX2_fillOrders 76 = .ok (.iaload, 1) := by decide +kernel
theorem dX2_fillOrders_77 : decode cX2_fillOrders 77 = .ok (.iand, 1) := by decide +kernel
theorem dX2_fillOrders_78 : decode cX2_fillOrders 78 = .ok (.iaload, 1) := by decide +kernel
theorem dX2_fillOrders_79 : decode cX2_fillOrders 79 = .ok (.iadd, 1) := by decide +kernel
theorem dX2_fillOrders_80 : decode cX2_fillOrders 80 = .ok (.invokestatic 70, 3) := by decide +kernel
theorem dX2_fillOrders_83 : decode cX2_fillOrders 83 = .ok (.istore_n 2, 1) := by decide +kernel
theorem dX2_fillOrders_84 : decode cX2_fillOrders 84 = .ok (.iinc 3 1, 3) := by decide +kernel
theorem dX2_fillOrders_87 : decode cX2_fillOrders 87 = .ok (.goto (-39), 3) := by decide +kernel
theorem dX2_fillOrders_90 : decode cX2_fillOrders 90 = .ok (.aload_n 0, 1) := by decide +kernel
theorem dX2_fillOrders_91 : decode cX2_fillOrders 91 = .ok (.getfield 24, 3) := by decide +kernel
theorem dX2_fillOrders_94 : decode cX2_fillOrders 94 = .ok (.iload_n 1, 1) := by decide +kernel
theorem dX2_fillOrders_95 : decode cX2_fillOrders 95 = .ok (.iload_n 2, 1) := by decide +kernel
theorem dX2_fillOrders_96 : decode cX2_fillOrders 96 = .ok (.iastore, 1) := by decide +kernel
theorem dX2_fillOrders_97 : decode cX2_fillOrders 97 = .ok (.iinc 1 1, 3) := by decide +kernel
theorem dX2_fillOrders_100 : decode cX2_fillOrders 100 = .ok (.goto (-64), 3) := by decide +kernel
theorem dX2_fillOrders_103 : decode cX2_fillOrders 103 = .ok (.return_, 1) := by decide +kernel
theorem dX2_canStandBehind_0 : decode cX2_canStandBehind 0 = .ok (.iconst 0, 1) := by decide +kernel
theorem dX2_canStandBehind_1 : decode cX2_canStandBehind 1 = .ok (.istore_n 2, 1) := by decide +kernel
theorem dX2_canStandBehind_2 : decode cX2_canStandBehind 2 = .ok (.iconst 0, 1) := by decide +kernel
theorem dX2_canStandBehind_3 : decode cX2_canStandBehind 3 = .ok (.istore_n 3, 1) := by decide +kernel
theorem dX2_canStandBehind_4 : decode cX2_canStandBehind 4 = .ok (.iload_n 3, 1) := by decide +kernel
theorem dX2_canStandBehind_5 : decode cX2_canStandBehind 5 = .ok (.aload_n 0, 1) := by decide +kernel
theorem dX2_canStandBehind_6 : decode cX2_canStandBehind 6 = .ok (.invokevirtual 60, 3) := by decide +kernel
theorem dX2_canStandBehind_9 : decode cX2_canStandBehind 9 = .ok (.if_icmp .ge 48, 3) := by decide +kernel
theorem dX2_canStandBehind_12 : decode cX2_canStandBehind 12 = .ok (.aload_n 0, 1) := by decide +kernel
theorem dX2_canStandBehind_13 : decode cX2_canStandBehind 13 = .ok (.getfield 15, 3) := by decide +kernel
theorem dX2_canStandBehind_16 : decode cX2_canStandBehind 16 = .ok (.iload_n 1, 1) := by decide +kernel
theorem dX2_canStandBehind_17 : decode cX2_canStandBehind 17 = .ok (.iaload, 1) := by decide +kernel
theorem dX2_canStandBehind_18 : decode cX2_canStandBehind 18 = .ok (.aload_n 0, 1) := by decide +kernel
theorem dX2_canStandBehind_19 : decode cX2_canStandBehind 19 = .ok (.getfield 15, 3) := by decide +kernel
theorem dX2_canStandBehind_22 : decode cX2_canStandBehind 22 = .ok (.iload_n 3, 1) := by decide +kernel
theorem dX2_canStandBehind_23 : decode cX2_canStandBehind 23 = .ok (.iaload, 1) := by decide +kernel
theorem dX2_canStandBehind_24 : decode cX2_canStandBehind 24 = .ok (.if_icmp .eq 27, 3) := by decide +kernel
theorem dX2_canStandBehind_27 : decode cX2_canStandBehind 27 = .ok (.aload_n 0, 1) := by decide +kernel
theorem dX2_canStandBehind_28 : decode cX2_canStandBehind 28 = .ok (.getfield 15, 3) := by decide +kernel
theorem dX2_canStandBehind_31 : decode cX2_canStandBehind 31 = .ok (.iload_n 3, 1) := by decide +kernel
theorem dX2_canStandBehind_32 : decode cX2_canStandBehind 32 = .ok (.iaload, 1) := by decide +kernel
theorem dX2_canStandBehind_33 : decode cX2_canStandBehind 33 = .ok (.aload_n 0, 1) := by decide +kernel
theorem dX2_canStandBehind_34 : decode cX2_canStandBehind 34 = .ok (.getfield 18, 3) := by decide +kernel
theorem dX2_canStandBehind_37 : decode cX2_canStandBehind 37 = .ok (.iload_n 1, 1) := by decide +kernel
theorem dX2_canStandBehind_38 : decode cX2_canStandBehind 38 = .ok (.iaload, 1) := by decide +kernel
theorem dX2_canStandBehind_39 : decode cX2_canStandBehind 39 = .ok (.invokestatic 66, 3) := by decide +kernel
theorem dX2_canStandBehind_42 : decode cX2_canStandBehind 42 = .ok (.ifCond .eq 9, 3) := by decide +kernel
theorem dX2_canStandBehind_45 : decode cX2_canStandBehind 45 = .ok (.iload_n 2, 1) := by decide +kernel
theorem dX2_canStandBehind_46 : decode cX2_canStandBehind 46 = .ok (.iconst 1, 1) := by decide +kernel
theorem dX2_canStandBehind_47 : decode cX2_canStandBehind 47 = .ok (.iload_n 3, 1) := by decide +kernel
theorem dX2_canStandBehind_48 : decode cX2_canStandBehind 48 = .ok (.ishl, 1) := by decide +kernel
theorem dX2_canStandBehind_49 : decode cX2_canStandBehind 49 = .ok (.ior, 1) := by decide +kernel
theorem dX2_canStandBehind_50 : decode cX2_canStandBehind 50 = .ok (.istore_n 2, 1) := by decide +kernel
theorem dX2_canStandBehind_51 : decode cX2_canStandBehind 51 = .ok (.iinc 3 1, 3) := by decide +kernel
theorem dX2_canStandBehind_54 : decode cX2_canStandBehind 54 = .ok (.goto (-50), 3) := by decide +kernel
theorem dX2_canStandBehind_57 : decode cX2_canStandBehind 57 = .ok (.iload_n 2, 1) := by decide +kernel
theorem dX2_canStandBehind_58 : decode cX2_canStandBehind 58 = .ok (.ireturn, 1) := by decide +kernel
theorem dX2_firstOfLongest_0 : decode cX2_firstOfLongest 0 = .ok (.iconst 0, 1) := by decide +kernel
theorem dX2_firstOfLongest_1 : decode cX2_firstOfLongest 1 = .ok (.istore_n 2, 1) := by decide +kernel
theorem dX2_firstOfLongest_2 : decode cX2_firstOfLongest 2 = .ok (.iload_n 2, 1) := by decide +kernel
theorem dX2_firstOfLongest_3 : decode cX2_firstOfLongest 3 = .ok (.aload_n 0, 1) := by decide +kernel
theorem dX2_firstOfLongest_4 : decode cX2_firstOfLongest 4 = .ok (.invokevirtual 60, 3) := by decide +kernel
theorem dX2_firstOfLongest_7 : decode cX2_firstOfLongest 7 = .ok (.if_icmp .ge 43, 3) := by decide +kernel
theorem dX2_firstOfLongest_10 : decode cX2_firstOfLongest 10 = .ok (.iload_n 2, 1) := by decide +kernel
theorem dX2_firstOfLongest_11 : decode cX2_firstOfLongest 11 = .ok (.iload_n 1, 1) := by decide +kernel
theorem dX2_firstOfLongest_12 : decode cX2_firstOfLongest 12 = .ok (.invokestatic 66, 3) := by decide +kernel
theorem dX2_firstOfLongest_15 : decode cX2_firstOfLongest 15 = .ok (.ifCond .eq 29, 3) := by decide +kernel
theorem dX2_firstOfLongest_18 : decode cX2_firstOfLongest 18 = .ok (.iconst 1, 1) := by decide +kernel
theorem dX2_firstOfLongest_19 : decode cX2_firstOfLongest 19 = .ok (.aload_n 0, 1) := by decide +kernel
theorem dX2_firstOfLongest_20 : decode cX2_firstOfLongest 20 = .ok (.getfield 24, 3) := by decide +kernel
theorem dX2_firstOfLongest_23 : decode cX2_firstOfLongest 23 = .ok (.iload_n 1, 1) := by decide +kernel
theorem dX2_firstOfLongest_24 : decode cX2_firstOfLongest 24 = .ok (.aload_n 0, 1) := by decide +kernel
theorem dX2_firstOfLongest_25 : decode cX2_firstOfLongest 25 = .ok (.getfield 21, 3) := by decide +kernel
theorem dX2_firstOfLongest_28 : decode cX2_firstOfLongest 28 = .ok (.iload_n 2, 1) := by decide +kernel
theorem dX2_firstOfLongest_29 : decode cX2_firstOfLongest 29 = .ok (.iaload, 1) := by decide +kernel
theorem dX2_firstOfLongest_30 : decode cX2_firstOfLongest 30 = .ok (.iand, 1) := by decide +kernel
theorem dX2_firstOfLongest_31 : decode cX2_firstOfLongest 31 = .ok (.iaload, 1) := by decide +kernel
theorem dX2_firstOfLongest_32 : decode cX2_firstOfLongest 32 = .ok (.iadd, 1) := by decide +kernel
theorem dX2_firstOfLongest_33 : decode cX2_firstOfLongest 33 = .ok (.aload_n 0, 1) := by decide +kernel
theorem dX2_firstOfLongest_34 : decode cX2_firstOfLongest 34 = .ok (.getfield 24, 3) := by decide +kernel
theorem dX2_firstOfLongest_37 : decode cX2_firstOfLongest 37 = .ok (.iload_n 1, 1) := by decide +kernel
theorem dX2_firstOfLongest_38 : decode cX2_firstOfLongest 38 = .ok (.iaload, 1) := by decide +kernel
theorem dX2_firstOfLongest_39 : decode cX2_firstOfLongest 39 = .ok (.if_icmp .ne 5, 3) := by decide +kernel
theorem dX2_firstOfLongest_42 : decode cX2_firstOfLongest 42 = .ok (.iload_n 2, 1) := by decide +kernel
theorem dX2_firstOfLongest_43 : decode cX2_firstOfLongest 43 = .ok (.ireturn, 1) := by decide +kernel
theorem dX2_firstOfLongest_44 : decode cX2_firstOfLongest 44 = .ok (.iinc 2 1, 3) := by decide +kernel
theorem dX2_firstOfLongest_47 : decode cX2_firstOfLongest 47 = .ok (.goto (-45), 3) := by decide +kernel
theorem dX2_firstOfLongest_50 : decode cX2_firstOfLongest 50 = .ok (.iconst 0, 1) := by decide +kernel
theorem dX2_firstOfLongest_51 : decode cX2_firstOfLongest 51 = .ok (.ireturn, 1) := by decide +kernel
theorem dX2_fillGroups_0 : decode cX2_fillGroups 0 = .ok (.iconst 0, 1) := by decide +kernel
theorem dX2_fillGroups_1 : decode cX2_fillGroups 1 = .ok (.istore_n 1, 1) := by decide +kernel
theorem dX2_fillGroups_2 : decode cX2_fillGroups 2 = .ok (.iload_n 1, 1) := by decide +kernel
theorem dX2_fillGroups_3 : decode cX2_fillGroups 3 = .ok (.aload_n 0, 1) := by decide +kernel
theorem dX2_fillGroups_4 : decode cX2_fillGroups 4 = .ok (.invokevirtual 60, 3) := by decide +kernel
theorem dX2_fillGroups_7 : decode cX2_fillGroups 7 = .ok (.if_icmp .ge 20, 3) := by decide +kernel
theorem dX2_fillGroups_10 : decode cX2_fillGroups 10 = .ok (.aload_n 0, 1) := by decide +kernel
theorem dX2_fillGroups_11 : decode cX2_fillGroups 11 = .ok (.getfield 21, 3) := by decide +kernel
theorem dX2_fillGroups_14 : decode cX2_fillGroups 14 = .ok (.iload_n 1, 1) := by decide +kernel
theorem dX2_fillGroups_15 : decode cX2_fillGroups 15 = .ok (.aload_n 0, 1) := by decide +kernel
theorem dX2_fillGroups_16 : decode cX2_fillGroups 16 = .ok (.iload_n 1, 1) := by decide +kernel
theorem dX2_fillGroups_17 : decode cX2_fillGroups 17 = .ok (.invokevirtual 73, 3) := by decide +kernel
theorem dX2_fillGroups_20 : decode cX2_fillGroups 20 = .ok (.iastore, 1) := by decide +kernel
theorem dX2_fillGroups_21 : decode cX2_fillGroups 21 = .ok (.iinc 1 1, 3) := by decide +kernel
theorem dX2_fillGroups_24 : decode cX2_fillGroups 24 = .ok (.goto (-22), 3) := by decide +kernel
theorem dX2_fillGroups_27 : decode cX2_fillGroups 27 = .ok (.aload_n 0, 1) := by decide +kernel
theorem dX2_fillGroups_28 : decode cX2_fillGroups 28 = .ok (.getfield 24, 3) := by decide +kernel
theorem dX2_fillGroups_31 : decode cX2_fillGroups 31 = .ok (.iconst 0, 1) := by decide +kernel
theorem dX2_fillGroups_32 : decode cX2_fillGroups 32 = .ok (.iconst 0, 1) := by decide +kernel
theorem dX2_fillGroups_33 : decode cX2_fillGroups 33 = .ok (.iastore, 1) := by decide +kernel
theorem dX2_fillGroups_34 : decode cX2_fillGroups 34 = .ok (.iconst 1, 1) := by decide +kernel
theorem dX2_fillGroups_35 : decode cX2_fillGroups 35 = .ok (.istore_n 1, 1) := by decide +kernel
theorem dX2_fillGroups_36 : decode cX2_fillGroups 36 = .ok (.iload_n 1, 1) := by decide +kernel
theorem dX2_fillGroups_37 : decode cX2_fillGroups 37 = .ok (.aload_n 0, 1) := by decide +kernel
theorem dX2_fillGroups_38 : decode cX2_fillGroups 38 = .ok (.invokevirtual 34, 3) := by decide +kernel
theorem dX2_fillGroups_41 : decode cX2_fillGroups 41 = .ok (.if_icmp .gt 70, 3) := by decide +kernel
theorem dX2_fillGroups_44 : decode cX2_fillGroups 44 = .ok (.iload_n 1, 1) := by decide +kernel
theorem dX2_fillGroups_45 : decode cX2_fillGroups 45 = .ok (.invokestatic 76, 3) := by decide +kernel
theorem dX2_fillGroups_48 : decode cX2_fillGroups 48 = .ok (.istore_n 2, 1) := by decide +kernel
theorem dX2_fillGroups_49 : decode cX2_fillGroups 49 = .ok (.iload_n 1, 1) := by decide +kernel
theorem dX2_fillGroups_50 : decode cX2_fillGroups 50 = .ok (.iload_n 1, 1) := by decide +kernel
theorem dX2_fillGroups_51 : decode cX2_fillGroups 51 = .ok (.iconst 1, 1) := by decide +kernel
theorem dX2_fillGroups_52 : decode cX2_fillGroups 52 = .ok (.isub, 1) := by decide +kernel
theorem dX2_fillGroups_53 : decode cX2_fillGroups 53 = .ok (.iand, 1) := by decide +kernel
theorem dX2_fillGroups_54 : decode cX2_fillGroups 54 = .ok (.istore_n 3, 1) := by decide +kernel
theorem dX2_fillGroups_55 : decode cX2_fillGroups 55 = .ok (.aload_n 0, 1) := by decide +kernel
theorem dX2_fillGroups_56 : decode cX2_fillGroups 56 = .ok (.getfield 24, 3) := by decide +kernel
theorem dX2_fillGroups_59 : decode cX2_fillGroups 59 = .ok (.iload_n 3, 1) := by decide +kernel
theorem dX2_fillGroups_60 : decode cX2_fillGroups 60 = .ok (.iaload, 1) := by decide +kernel
theorem dX2_fillGroups_61 : decode cX2_fillGroups 61 = .ok (.iconst 1, 1) := by decide +kernel
theorem dX2_fillGroups_62 : decode cX2_fillGroups 62 = .ok (.if_icmp .gt 20, 3) := by decide +kernel
theorem dX2_fillGroups_65 : decode cX2_fillGroups 65 = .ok (.iload_n 3, 1) := by decide +kernel
theorem dX2_fillGroups_66 : decode cX2_fillGroups 66 = .ok (.aload_n 0, 1) := by decide +kernel
theorem dX2_fillGroups_67 : decode cX2_fillGroups 67 = .ok (.getfield 21, 3) := by decide +kernel
theorem dX2_fillGroups_70 : decode cX2_fillGroups 70 = .ok (.iload_n 2, 1) := by decide +kernel
theorem dX2_fillGroups_71 : decode cX2_fillGroups 71 = .ok (.iaload, 1) := by decide +kernel
theorem dX2_fillGroups_72 : decode cX2_fillGroups 72 = .ok (.iconst (-1), 1) := by decide +kernel
theorem dX2_fillGroups_73 : decode cX2_fillGroups 73 = .ok (.ixor, 1) := by decide +kernel
theorem dX2_fillGroups_74 : decode cX2_fillGroups 74 = .ok (.iand, 1) := by decide +kernel
theorem dX2_fillGroups_75 : decode cX2_fillGroups 75 = .ok (.ifCond .ne 7, 3) := by decide +kernel
theorem dX2_fillGroups_78 : decode cX2_fillGroups 78 = .ok (.iconst 1, 1) := by decide +kernel
theorem dX2_fillGroups_79 : decode cX2_fillGroups 79 = .ok (.goto 4, 3) := by decide +kernel
theorem dX2_fillGroups_82 : decode cX2_fillGroups 82 = .ok (.iconst 0, 1) := by decide +kernel
theorem dX2_fillGroups_83 : decode cX2_fillGroups 83 = .ok (.istore 4, 2) := by decide +kernel
theorem dX2_fillGroups_85 : decode cX2_fillGroups 85 = .ok (.aload_n 0, 1) := by decide +kernel
theorem dX2_fillGroups_86 : decode cX2_fillGroups 86 = .ok (.getfield 24, 3) := by decide +kernel
theorem dX2_fillGroups_89 : decode cX2_fillGroups 89 = .ok (.iload_n 1, 1) := by decide +kernel
theorem dX2_fillGroups_90 : decode cX2_fillGroups 90 = .ok (.iload 4, 2) := by decide +kernel
theorem dX2_fillGroups_92 : decode cX2_fillGroups 92 = .ok (.ifCond .eq 7, 3) := by decide +kernel
theorem dX2_fillGroups_95 : decode cX2_fillGroups 95 = .ok (.iconst 1, 1) := by decide +kernel
theorem dX2_fillGroups_96 : decode cX2_fillGroups 96 = .ok (.goto 8, 3) := by decide +kernel
theorem dX2_fillGroups_99 : decode cX2_fillGroups 99 = .ok (.aload_n 0, 1) := by decide +kernel
theorem dX2_fillGroups_100 : decode cX2_fillGroups 100 = .ok (.iload_n 1, 1) := by decide +kernel
theorem dX2_fillGroups_101 : decode cX2_fillGroups 101 = .ok (.invokevirtual 81, 3) := by decide +kernel
theorem dX2_fillGroups_104 : decode cX2_fillGroups 104 = .ok (.iastore, 1) := by decide +kernel
theorem dX2_fillGroups_105 : decode cX2_fillGroups 105 = .ok (.iinc 1 1, 3) := by decide +kernel
theorem dX2_fillGroups_108 : decode cX2_fillGroups 108 = .ok (.goto (-72), 3) := by decide +kernel
theorem dX2_fillGroups_111 : decode cX2_fillGroups 111 = .ok (.return_, 1) := by decide +kernel
theorem dX2_canBeGroupedWith_0 : decode cX2_canBeGroupedWith 0 = .ok (.iconst 0, 1) := by decide +kernel
theorem dX2_canBeGroupedWith_1 : decode cX2_canBeGroupedWith 1 = .ok (.istore_n 2, 1) := by decide +kernel
theorem dX2_canBeGroupedWith_2 : decode cX2_canBeGroupedWith 2 = .ok (.iconst 0, 1) := by decide +kernel
theorem dX2_canBeGroupedWith_3 : decode cX2_canBeGroupedWith 3 = .ok (.istore_n 3, 1) := by decide +kernel
theorem dX2_canBeGroupedWith_4 : decode cX2_canBeGroupedWith 4 = .ok (.iload_n 3, 1) := by decide +kernel
theorem dX2_canBeGroupedWith_5 : decode cX2_canBeGroupedWith 5 = .ok (.aload_n 0, 1) := by decide +kernel
theorem dX2_canBeGroupedWith_6 : decode cX2_canBeGroupedWith 6 = .ok (.invokevirtual 60, 3) := by decide +kernel
theorem dX2_canBeGroupedWith_9 : decode cX2_canBeGroupedWith 9 = .ok (.if_icmp .ge 93, 3) := by decide +kernel
theorem dX2_canBeGroupedWith_12 : decode cX2_canBeGroupedWith 12 = .ok (.aload_n 0, 1) := by decide +kernel
theorem dX2_canBeGroupedWith_13 : decode cX2_canBeGroupedWith 13 = .ok (.getfield 9, 3) := by decide +kernel
theorem dX2_canBeGroupedWith_16 : decode cX2_canBeGroupedWith 16 = .ok (.iload_n 1, 1) := by decide +kernel
theorem dX2_canBeGroupedWith_17 : decode cX2_canBeGroupedWith 17 = .ok (.iaload, 1) := by decide +kernel
theorem dX2_canBeGroupedWith_18 : decode cX2_canBeGroupedWith 18 = .ok (.aload_n 0, 1) := by decide +kernel
theorem dX2_canBeGroupedWith_19 : decode cX2_canBeGroupedWith 19 = .ok (.getfield 9, 3) := by decide +kernel
theorem dX2_canBeGroupedWith_22 : decode cX2_canBeGroupedWith 22 = .ok (.iload_n 3, 1) := by decide +kernel
theorem dX2_canBeGroupedWith_23 : decode cX2_canBeGroupedWith 23 = .ok (.iaload, 1) := by decide +kernel
theorem dX2_canBeGroupedWith_24 : decode cX2_canBeGroupedWith 24 = .ok (.if_icmp .eq 43, 3) := by decide +kernel
theorem dX2_canBeGroupedWith_27 : decode cX2_canBeGroupedWith 27 = .ok (.aload_n 0, 1) := by decide +kernel
theorem dX2_canBeGroupedWith_28 : decode cX2_canBeGroupedWith 28 = .ok (.getfield 15, 3) := by decide +kernel
theorem dX2_canBeGroupedWith_31 : decode cX2_canBeGroupedWith 31 = .ok (.iload_n 1, 1) := by decide +kernel
theorem dX2_canBeGroupedWith_32 : decode cX2_canBeGroupedWith 32 = .ok (.iaload, 1) := by decide +kernel
theorem dX2_canBeGroupedWith_33 : decode cX2_canBeGroupedWith 33 = .ok (.aload_n 0, 1) := by decide +kernel
theorem dX2_canBeGroupedWith_34 : decode cX2_canBeGroupedWith 34 = .ok (.getfield 18, 3) := by decide +kernel
theorem dX2_canBeGroupedWith_37 : decode cX2_canBeGroupedWith 37 = .ok (.iload_n 3, 1) := by decide +kernel
theorem dX2_canBeGroupedWith_38 : decode cX2_canBeGroupedWith 38 = .ok (.iaload, 1) := by decide +kernel
theorem dX2_canBeGroupedWith_39 : decode cX2_canBeGroupedWith 39 = .ok (.invokestatic 66, 3) := by decide +kernel
theorem dX2_canBeGroupedWith_42 : decode cX2_canBeGroupedWith 42 = .ok (.ifCond .ne 25, 3) := by decide +kernel
theorem dX2_canBeGroupedWith_45 : decode cX2_canBeGroupedWith 45 = .ok (.aload_n 0, 1) := by decide +kernel
theorem dX2_canBeGroupedWith_46 : decode cX2_canBeGroupedWith 46 = .ok (.getfield 15, 3) := by decide +kernel
theorem dX2_canBeGroupedWith_49 : decode cX2_canBeGroupedWith 49 = .ok (.iload_n 3, 1) := by decide +kernel
theorem dX2_canBeGroupedWith_50 : decode cX2_canBeGroupedWith 50 = .ok (.iaload, 1) := by decide +kernel
theorem dX2_canBeGroupedWith_51 : decode cX2_canBeGroupedWith 51 = .ok (.aload_n 0, 1) := by decide +kernel
theorem dX2_canBeGroupedWith_52 : decode cX2_canBeGroupedWith 52 = .ok (.getfield 18, 3) := by decide +kernel
theorem dX2_canBeGroupedWith_55 : decode cX2_canBeGroupedWith 55 = .ok (.iload_n 1, 1) := by decide +kernel
theorem dX2_canBeGroupedWith_56 : decode cX2_canBeGroupedWith 56 = .ok (.iaload, 1) := by decide +kernel
theorem dX2_canBeGroupedWith_57 : decode cX2_canBeGroupedWith 57 = .ok (.invokestatic 66, 3) := by decide +kernel
theorem dX2_canBeGroupedWith_60 : decode cX2_canBeGroupedWith 60 = .ok (.ifCond .ne 7, 3) := by decide +kernel
theorem dX2_canBeGroupedWith_63 : decode cX2_canBeGroupedWith 63 = .ok (.iconst 1, 1) := by decide +kernel
theorem dX2_canBeGroupedWith_64 : decode cX2_canBeGroupedWith 64 = .ok (.goto 4, 3) := by decide +kernel
theorem dX2_canBeGroupedWith_67 : decode cX2_canBeGroupedWith 67 = .ok (.iconst 0, 1) := by decide +kernel
theorem dX2_canBeGroupedWith_68 : decode cX2_canBeGroupedWith 68 = .ok (.istore 4, 2) := by decide +kernel
theorem dX2_canBeGroupedWith_70 : decode cX2_canBeGroupedWith 70 = .ok (.aload_n 0, 1) := by decide +kernel
theorem dX2_canBeGroupedWith_71 : decode cX2_canBeGroupedWith 71 = .ok (.getfield 15, 3) := by decide +kernel
theorem dX2_canBeGroupedWith_74 : decode cX2_canBeGroupedWith 74 = .ok (.iload_n 1, 1) := by decide +kernel
theorem dX2_canBeGroupedWith_75 : decode cX2_canBeGroupedWith 75 = .ok (.iaload, 1) := by decide +kernel
theorem dX2_canBeGroupedWith_76 : decode cX2_canBeGroupedWith 76 = .ok (.aload_n 0, 1) := by decide +kernel
theorem dX2_canBeGroupedWith_77 : decode cX2_canBeGroupedWith 77 = .ok (.getfield 15, 3) := by decide +kernel
theorem dX2_canBeGroupedWith_80 : decode cX2_canBeGroupedWith 80 = .ok (.iload_n 3, 1) := by decide +kernel
theorem dX2_canBeGroupedWith_81 : decode cX2_canBeGroupedWith 81 = .ok (.iaload, 1) := by decide +kernel
theorem dX2_canBeGroupedWith_82 : decode cX2_canBeGroupedWith 82 = .ok (.if_icmp .eq 8, 3) := by decide +kernel
theorem dX2_canBeGroupedWith_85 : decode cX2_canBeGroupedWith 85 = .ok (.iload 4, 2) := by decide +kernel
theorem dX2_canBeGroupedWith_87 : decode cX2_canBeGroupedWith 87 = .ok (.ifCond .eq 9, 3) := by decide +kernel
theorem dX2_canBeGroupedWith_90 : decode cX2_canBeGroupedWith 90 = .ok (.iload_n 2, 1) := by decide +kernel
theorem dX2_canBeGroupedWith_91 : decode cX2_canBeGroupedWith 91 = .ok (.iconst 1, 1) := by decide +kernel
theorem dX2_canBeGroupedWith_92 : decode cX2_canBeGroupedWith 92 = .ok (.iload_n 3, 1) := by decide +kernel
theorem dX2_canBeGroupedWith_93 : decode cX2_canBeGroupedWith 93 = .ok (.ishl, 1) := by decide +kernel
theorem dX2_canBeGroupedWith_94 : decode cX2_canBeGroupedWith 94 = .ok (.ior, 1) := by decide +kernel
theorem dX2_canBeGroupedWith_95 : decode cX2_canBeGroupedWith 95 = .ok (.istore_n 2, 1) := by decide +kernel
theorem dX2_canBeGroupedWith_96 : decode cX2_canBeGroupedWith 96 = .ok (.iinc 3 1, 3) := by decide +kernel
theorem dX2_canBeGroupedWith_99 : decode cX2_canBeGroupedWith 99 = .ok (.goto (-95), 3) := by decide +kernel
theorem dX2_canBeGroupedWith_102 : decode cX2_canBeGroupedWith 102 = .ok (.iload_n 2, 1) := by decide +kernel
theorem dX2_canBeGroupedWith_103 : decode cX2_canBeGroupedWith 103 = .ok (.ireturn, 1) := by decide +kernel
theorem dX2_fewestOfSeveral_0 : decode cX2_fewestOfSeveral 0 = .ok (.iload_n 1, 1) := by decide +kernel
theorem dX2_fewestOfSeveral_1 : decode cX2_fewestOfSeveral 1 = .ok (.invokestatic 84, 3) := by decide +kernel
theorem dX2_fewestOfSeveral_4 : decode cX2_fewestOfSeveral 4 = .ok (.istore_n 2, 1) := by decide +kernel
theorem dX2_fewestOfSeveral_5 : decode cX2_fewestOfSeveral 5 = .ok (.iload_n 1, 1) := by decide +kernel
theorem dX2_fewestOfSeveral_6 : decode cX2_fewestOfSeveral 6 = .ok (.iload_n 2, 1) := by decide +kernel
theorem dX2_fewestOfSeveral_7 : decode cX2_fewestOfSeveral 7 = .ok (.iconst (-1), 1) := by decide +kernel
theorem dX2_fewestOfSeveral_8 : decode cX2_fewestOfSeveral 8 = .ok (.ixor, 1) := by decide +kernel
theorem dX2_fewestOfSeveral_9 : decode cX2_fewestOfSeveral 9 = .ok (.iand, 1) := by decide +kernel
theorem dX2_fewestOfSeveral_10 : decode cX2_fewestOfSeveral 10 = .ok (.istore_n 3, 1) := by decide +kernel
theorem dX2_fewestOfSeveral_11 : decode cX2_fewestOfSeveral 11 = .ok (.bipush 10, 2) := by decide +kernel
theorem dX2_fewestOfSeveral_13 : decode cX2_fewestOfSeveral 13 = .ok (.istore 4, 2) := by decide +kernel
theorem dX2_fewestOfSeveral_15 : decode cX2_fewestOfSeveral 15 = .ok (.iload_n 3, 1) := by decide +kernel
theorem dX2_fewestOfSeveral_16 : decode cX2_fewestOfSeveral 16 = .ok (.istore 5, 2) := by decide +kernel
theorem dX2_fewestOfSeveral_18 : decode cX2_fewestOfSeveral 18 = .ok (.iload 5, 2) := by decide +kernel
theorem dX2_fewestOfSeveral_20 : decode cX2_fewestOfSeveral 20 = .ok (.ifCond .le 47, 3) := by decide +kernel
theorem dX2_fewestOfSeveral_23 : decode cX2_fewestOfSeveral 23 = .ok (.iload 5, 2) := by decide +kernel
theorem dX2_fewestOfSeveral_25 : decode cX2_fewestOfSeveral 25 = .ok (.iconst 1, 1) := by decide +kernel
theorem dX2_fewestOfSeveral_26 : decode cX2_fewestOfSeveral 26 = .ok (.isub, 1) := by decide +kernel
theorem dX2_fewestOfSeveral_27 : decode cX2_fewestOfSeveral 27 = .ok (.iload_n 3, 1) := by decide +kernel
theorem dX2_fewestOfSeveral_28 : decode cX2_fewestOfSeveral 28 = .ok (.iand, 1) := by decide +kernel
theorem dX2_fewestOfSeveral_29 : decode cX2_fewestOfSeveral 29 = .ok (.istore 5, 2) := by decide +kernel
theorem dX2_fewestOfSeveral_31 : decode cX2_fewestOfSeveral 31 = .ok (.aload_n 0, 1) := by decide +kernel
theorem dX2_fewestOfSeveral_32 : decode cX2_fewestOfSeveral 32 = .ok (.getfield 24, 3) := by decide +kernel
theorem dX2_fewestOfSeveral_35 : decode cX2_fewestOfSeveral 35 = .ok (.iload_n 2, 1) := by decide +kernel
theorem dX2_fewestOfSeveral_36 : decode cX2_fewestOfSeveral 36 = .ok (.iload 5, 2) := by decide +kernel
theorem dX2_fewestOfSeveral_38 : decode cX2_fewestOfSeveral 38 = .ok (.ior, 1) := by decide +kernel
theorem dX2_fewestOfSeveral_39 : decode cX2_fewestOfSeveral 39 = .ok (.iaload, 1) := by decide +kernel
theorem dX2_fewestOfSeveral_40 : decode cX2_fewestOfSeveral 40 = .ok (.iconst 1, 1) := by decide +kernel
theorem dX2_fewestOfSeveral_41 : decode cX2_fewestOfSeveral 41 = .ok (.if_icmp .ne (-23), 3) := by decide +kernel
theorem dX2_fewestOfSeveral_44 : decode cX2_fewestOfSeveral 44 = .ok (.iload 4, 2) := by decide +kernel
theorem dX2_fewestOfSeveral_46 : decode cX2_fewestOfSeveral 46 = .ok (.iconst 1, 1) := by decide +kernel
theorem dX2_fewestOfSeveral_47 : decode cX2_fewestOfSeveral 47 = .ok (.aload_n 0, 1) := by decide +kernel
theorem dX2_fewestOfSeveral_48 : decode cX2_fewestOfSeveral 48 = .ok (.getfield 24, 3) := by decide +kernel
theorem dX2_fewestOfSeveral_51 : decode cX2_fewestOfSeveral 51 = .ok (.iload_n 3, 1) := by decide +kernel
theorem dX2_fewestOfSeveral_52 : decode cX2_fewestOfSeveral 52 = .ok (.iload 5, 2) := by decide +kernel
theorem dX2_fewestOfSeveral_54 : decode cX2_fewestOfSeveral 54 = .ok (.iconst (-1), 1) := by decide +kernel
theorem dX2_fewestOfSeveral_55 : decode cX2_fewestOfSeveral 55 = .ok (.ixor, 1) := by decide +kernel
theorem dX2_fewestOfSeveral_56 : decode cX2_fewestOfSeveral 56 = .ok (.iand, 1) := by decide +kernel
theorem dX2_fewestOfSeveral_57 : decode cX2_fewestOfSeveral 57 = .ok (.iaload, 1) := by decide +kernel
theorem dX2_fewestOfSeveral_58 : decode cX2_fewestOfSeveral 58 = .ok (.iadd, 1) := by decide +kernel
theorem dX2_fewestOfSeveral_59 : decode cX2_fewestOfSeveral 59 = .ok (.invokestatic 54, 3) := by decide +kernel
theorem dX2_fewestOfSeveral_62 : decode cX2_fewestOfSeveral 62 = .ok (.istore 4, 2) := by decide +kernel
theorem dX2_fewestOfSeveral_64 : decode cX2_fewestOfSeveral 64 = .ok (.goto (-46), 3) := by decide +kernel
theorem dX2_fewestOfSeveral_67 : decode cX2_fewestOfSeveral 67 = .ok (.iload 4, 2) := by decide +kernel
theorem dX2_fewestOfSeveral_69 : decode cX2_fewestOfSeveral 69 = .ok (.ireturn, 1) := by decide +kernel
theorem dX2_firstOfFewest_0 : decode cX2_firstOfFewest 0 = .ok (.iload_n 1, 1) := by decide +kernel
theorem dX2_firstOfFewest_1 : decode cX2_firstOfFewest 1 = .ok (.invokestatic 84, 3) := by decide +kernel
theorem dX2_firstOfFewest_4 : decode cX2_firstOfFewest 4 = .ok (.istore_n 2, 1) := by decide +kernel
theorem dX2_firstOfFewest_5 : decode cX2_firstOfFewest 5 = .ok (.iload_n 2, 1) := by decide +kernel
theorem dX2_firstOfFewest_6 : decode cX2_firstOfFewest 6 = .ok (.istore_n 3, 1) := by decide +kernel
theorem dX2_firstOfFewest_7 : decode cX2_firstOfFewest 7 = .ok (.iload_n 3, 1) := by decide +kernel
theorem dX2_firstOfFewest_8 : decode cX2_firstOfFewest 8 = .ok (.iload_n 1, 1) := by decide +kernel
theorem dX2_firstOfFewest_9 : decode cX2_firstOfFewest 9 = .ok (.if_icmp .gt 68, 3) := by decide +kernel
theorem dX2_firstOfFewest_12 : decode cX2_firstOfFewest 12 = .ok (.iload_n 3, 1) := by decide +kernel
theorem dX2_firstOfFewest_13 : decode cX2_firstOfFewest 13 = .ok (.iload_n 2, 1) := by decide +kernel
theorem dX2_firstOfFewest_14 : decode cX2_firstOfFewest 14 = .ok (.iand, 1) := by decide +kernel
theorem dX2_firstOfFewest_15 : decode cX2_firstOfFewest 15 = .ok (.ifCond .eq 25, 3) := by decide +kernel
theorem dX2_firstOfFewest_18 : decode cX2_firstOfFewest 18 = .ok (.iload_n 3, 1) := by decide +kernel
theorem dX2_firstOfFewest_19 : decode cX2_firstOfFewest 19 = .ok (.iload_n 1, 1) := by decide +kernel
theorem dX2_firstOfFewest_20 : decode cX2_firstOfFewest 20 = .ok (.iconst (-1), 1) := by decide +kernel
theorem dX2_firstOfFewest_21 : decode cX2_firstOfFewest 21 = .ok (.ixor, 1) := by decide +kernel
theorem dX2_firstOfFewest_22 : decode cX2_firstOfFewest 22 = .ok (.iand, 1) := by decide +kernel
theorem dX2_firstOfFewest_23 : decode cX2_firstOfFewest 23 = .ok (.ifCond .ne 17, 3) := by decide +kernel
theorem dX2_firstOfFewest_26 : decode cX2_firstOfFewest 26 = .ok (.aload_n 0, 1) := by decide +kernel
theorem dX2_firstOfFewest_27 : decode cX2_firstOfFewest 27 = .ok (.getfield 24, 3) := by decide +kernel
theorem dX2_firstOfFewest_30 : decode cX2_firstOfFewest 30 = .ok (.iload_n 3, 1) := by decide +kernel
theorem dX2_firstOfFewest_31 : decode cX2_firstOfFewest 31 = .ok (.iaload, 1) := by decide +kernel
theorem dX2_firstOfFewest_32 : decode cX2_firstOfFewest 32 = .ok (.iconst 1, 1) := by decide +kernel
theorem dX2_firstOfFewest_33 : decode cX2_firstOfFewest 33 = .ok (.if_icmp .ne 7, 3) := by decide +kernel
theorem dX2_firstOfFewest_36 : decode cX2_firstOfFewest 36 = .ok (.iconst 1, 1) := by decide +kernel
theorem dX2_firstOfFewest_37 : decode cX2_firstOfFewest 37 = .ok (.goto 4, 3) := by decide +kernel
theorem dX2_firstOfFewest_40 : decode cX2_firstOfFewest 40 = .ok (.iconst 0, 1) := by decide +kernel
theorem dX2_firstOfFewest_41 : decode cX2_firstOfFewest 41 = .ok (.istore 4, 2) := by decide +kernel
theorem dX2_firstOfFewest_43 : decode cX2_firstOfFewest 43 = .ok (.iload 4, 2) := by decide +kernel
theorem dX2_firstOfFewest_45 : decode cX2_firstOfFewest 45 = .ok (.ifCond .eq 26, 3) := by decide +kernel
theorem dX2_firstOfFewest_48 : decode cX2_firstOfFewest 48 = .ok (.iconst 1, 1) := by decide +kernel
theorem dX2_firstOfFewest_49 : decode cX2_firstOfFewest 49 = .ok (.aload_n 0, 1) := by decide +kernel
theorem dX2_firstOfFewest_50 : decode cX2_firstOfFewest 50 = .ok (.getfield 24, 3) := by decide +kernel
theorem dX2_firstOfFewest_53 : decode cX2_firstOfFewest 53 = .ok (.iload_n 1, 1) := by decide +kernel
theorem dX2_firstOfFewest_54 : decode cX2_firstOfFewest 54 = .ok (.iload_n 3, 1) := by decide +kernel
theorem dX2_firstOfFewest_55 : decode cX2_firstOfFewest 55 = .ok (.iconst (-1), 1) := by decide +kernel
theorem dX2_firstOfFewest_56 : decode cX2_firstOfFewest 56 = .ok (.ixor, 1) := by decide +kernel
theorem dX2_firstOfFewest_57 : decode cX2_firstOfFewest 57 = .ok (.iand, 1) := by decide +kernel
theorem dX2_firstOfFewest_58 : decode cX2_firstOfFewest 58 = .ok (.iaload, 1) := by decide +kernel
theorem dX2_firstOfFewest_59 : decode cX2_firstOfFewest 59 = .ok (.iadd, 1) := by decide +kernel
theorem dX2_firstOfFewest_60 : decode cX2_firstOfFewest 60 = .ok (.aload_n 0, 1) := by decide +kernel
theorem dX2_firstOfFewest_61 : decode cX2_firstOfFewest 61 = .ok (.getfield 24, 3) := by decide +kernel
theorem dX2_firstOfFewest_64 : decode cX2_firstOfFewest 64 = .ok (.iload_n 1, 1) := by decide +kernel
theorem dX2_firstOfFewest_65 : decode cX2_firstOfFewest 65 = .ok (.iaload, 1) := by decide +kernel
theorem dX2_firstOfFewest_66 : decode cX2_firstOfFewest 66 = .ok (.if_icmp .ne 5, 3) := by decide +kernel
theorem dX2_firstOfFewest_69 : decode cX2_firstOfFewest 69 = .ok (.iload_n 3, 1) := by decide +kernel
theorem dX2_firstOfFewest_70 : decode cX2_firstOfFewest 70 = .ok (.ireturn, 1) := by decide +kernel
theorem dX2_firstOfFewest_71 : decode cX2_firstOfFewest 71 = .ok (.iinc 3 1, 3) := by decide +kernel
theorem dX2_firstOfFewest_74 : decode cX2_firstOfFewest 74 = .ok (.goto (-67), 3) := by decide +kernel
theorem dX2_firstOfFewest_77 : decode cX2_firstOfFewest 77 = .ok (.iload_n 1, 1) := by decide +kernel
theorem dX2_firstOfFewest_78 : decode cX2_firstOfFewest 78 = .ok (.ireturn, 1) := by decide +kernel
