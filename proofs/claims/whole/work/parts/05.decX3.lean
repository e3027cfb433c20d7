theorem dX3_init_0 : decode cX3_init 0 = .ok (.aload_n 0, 1) := by decide +kernel
theorem dX3_init_1 : decode cX3_init 1 = .ok (.invokespecial 1, 3) := by decide +kernel
theorem dX3_init_4 : decode cX3_init 4 = .ok (.aload_n 0, 1) := by decide +kernel
theorem dX3_init_5 : decode cX3_init 5 = .ok (.bipush 10, 2) := by decide +kernel
theorem dX3_init_7 : decode cX3_init 7 = .ok (.newarray .long, 2) := by decide +kernel
theorem dX3_init_9 : decode cX3_init 9 = .ok (.putfield 9, 3) := by decide +kernel
theorem dX3_init_12 : decode cX3_init 12 = .ok (.aload_n 0, 1) := by decide +kernel
theorem dX3_init_13 : decode cX3_init 13 = .ok (.new 13, 3) := by decide +kernel
theorem dX3_init_16 : decode cX3_init 16 = .ok (.dup, 1) := by decide +kernel
theorem dX3_init_17 : decode cX3_init 17 = .ok (.invokespecial 15, 3) := by decide +kernel
theorem dX3_init_20 : decode cX3_init 20 = .ok (.putfield 16, 3) := by decide +kernel
theorem dX3_init_23 : decode cX3_init 23 = .ok (.aload_n 0, 1) := by decide +kernel
theorem dX3_init_24 : decode cX3_init 24 = .ok (.bipush 40, 2) := by decide +kernel
theorem dX3_init_26 : decode cX3_init 26 = .ok (.newarray .int, 2) := by decide +kernel
theorem dX3_init_28 : decode cX3_init 28 = .ok (.putfield 20, 3) := by decide +kernel
theorem dX3_init_31 : decode cX3_init 31 = .ok (.aload_n 0, 1) := by decide +kernel
theorem dX3_init_32 : decode cX3_init 32 = .ok (.bipush 40, 2) := by decide +kernel
theorem dX3_init_34 : decode cX3_init 34 = .ok (.newarray .int, 2) := by decide +kernel
theorem dX3_init_36 : decode cX3_init 36 = .ok (.putfield 24, 3) := by decide +kernel
theorem dX3_init_39 : decode cX3_init 39 = .ok (.aload_n 0, 1) := by decide +kernel
theorem dX3_init_40 : decode cX3_init 40 = .ok (.bipush 40, 2) := by decide +kernel
theorem dX3_init_42 : decode cX3_init 42 = .ok (.newarray .int, 2) := by decide +kernel
theorem dX3_init_44 : decode cX3_init 44 = .ok (.putfield 27, 3) := by decide +kernel
theorem dX3_init_47 : decode cX3_init 47 = .ok (.aload_n 0, 1) := by decide +kernel
theorem dX3_init_48 : decode cX3_init 48 = .ok (.new 30, 3) := by decide +kernel
theorem dX3_init_51 : decode cX3_init 51 = .ok (.dup, 1) := by decide +kernel
theorem dX3_init_52 : decode cX3_init 52 = .ok (.invokespecial 32, 3) := by decide +kernel
theorem dX3_init_55 : decode cX3_init 55 = .ok (.putfield 33, 3) := by decide +kernel
theorem dX3_init_58 : decode cX3_init 58 = .ok (.aload_n 0, 1) := by decide +kernel
theorem dX3_init_59 : decode cX3_init 59 = .ok (.new 37, 3) := by decide +kernel
theorem dX3_init_62 : decode cX3_init 62 = .ok (.dup, 1) := by decide +kernel
theorem dX3_init_63 : decode cX3_init 63 = .ok (.invokespecial 39, 3) := by decide +kernel
theorem dX3_init_66 : decode cX3_init 66 = .ok (.putfield 40, 3) := by decide +kernel
theorem dX3_init_69 : decode cX3_init 69 = .ok (.aload_n 0, 1) := by decide +kernel
theorem dX3_init_70 : decode cX3_init 70 = .ok (.iconst 5, 1) := by decide +kernel
theorem dX3_init_71 : decode cX3_init 71 = .ok (.newarray .int, 2) := by decide +kernel
theorem dX3_init_73 : decode cX3_init 73 = .ok (.putfield 44, 3) := by decide +kernel
theorem dX3_init_76 : decode cX3_init 76 = .ok (.return_, 1) := by decide +kernel
theorem dX3_piece_0 : decode cX3_piece 0 = .ok (.aload_n 0, 1) := by decide +kernel
theorem dX3_piece_1 : decode cX3_piece 1 = .ok (.getfield 47, 3) := by decide +kernel
theorem dX3_piece_4 : decode cX3_piece 4 = .ok (.ifCond .le 6, 3) := by decide +kernel
theorem dX3_piece_7 : decode cX3_piece 7 = .ok (.bipush (-5), 2) := by decide +kernel
theorem dX3_piece_9 : decode cX3_piece 9 = .ok (.ireturn, 1) := by decide +kernel
theorem dX3_piece_10 : decode cX3_piece 10 = .ok (.aload_n 0, 1) := by decide +kernel
theorem dX3_piece_11 : decode cX3_piece 11 = .ok (.getfield 51, 3) := by decide +kernel
theorem dX3_piece_14 : decode cX3_piece 14 = .ok (.bipush 10, 2) := by decide +kernel
theorem dX3_piece_16 : decode cX3_piece 16 = .ok (.if_icmp .lt 6, 3) := by decide +kernel
theorem dX3_piece_19 : decode cX3_piece 19 = .ok (.bipush (-4), 2) := by decide +kernel
theorem dX3_piece_21 : decode cX3_piece 21 = .ok (.ireturn, 1) := by decide +kernel
theorem dX3_piece_22 : decode cX3_piece 22 = .ok (.aload_n 0, 1) := by decide +kernel
theorem dX3_piece_23 : decode cX3_piece 23 = .ok (.getfield 9, 3) := by decide +kernel
theorem dX3_piece_26 : decode cX3_piece 26 = .ok (.aload_n 0, 1) := by decide +kernel
theorem dX3_piece_27 : decode cX3_piece 27 = .ok (.getfield 51, 3) := by decide +kernel
theorem dX3_piece_30 : decode cX3_piece 30 = .ok (.lload_n 1, 1) := by decide +kernel
theorem dX3_piece_31 : decode cX3_piece 31 = .ok (.lastore, 1) := by decide +kernel
theorem dX3_piece_32 : decode cX3_piece 32 = .ok (.aload_n 0, 1) := by decide +kernel
theorem dX3_piece_33 : decode cX3_piece 33 = .ok (.dup, 1) := by decide +kernel
theorem dX3_piece_34 : decode cX3_piece 34 = .ok (.getfield 51, 3) := by decide +kernel
theorem dX3_piece_37 : decode cX3_piece 37 = .ok (.iconst 1, 1) := by decide +kernel
theorem dX3_piece_38 : decode cX3_piece 38 = .ok (.iadd, 1) := by decide +kernel
theorem dX3_piece_39 : decode cX3_piece 39 = .ok (.putfield 51, 3) := by decide +kernel
theorem dX3_piece_42 : decode cX3_piece 42 = .ok (.aload_n 0, 1) := by decide +kernel
theorem dX3_piece_43 : decode cX3_piece 43 = .ok (.getfield 51, 3) := by decide +kernel
theorem dX3_piece_46 : decode cX3_piece 46 = .ok (.iconst 1, 1) := by decide +kernel
theorem dX3_piece_47 : decode cX3_piece 47 = .ok (.isub, 1) := by decide +kernel
theorem dX3_piece_48 : decode cX3_piece 48 = .ok (.ireturn, 1) := by decide +kernel
theorem dX3_bytes_0 : decode cX3_bytes 0 = .ok (.aload_n 0, 1) := by decide +kernel
theorem dX3_bytes_1 : decode cX3_bytes 1 = .ok (.iload_n 1, 1) := by decide +kernel
theorem dX3_bytes_2 : decode cX3_bytes 2 = .ok (.invokevirtual 54, 3) := by decide +kernel
theorem dX3_bytes_5 : decode cX3_bytes 5 = .ok (.ifCond .eq 12, 3) := by decide +kernel
theorem dX3_bytes_8 : decode cX3_bytes 8 = .ok (.aload_n 0, 1) := by decide +kernel
theorem dX3_bytes_9 : decode cX3_bytes 9 = .ok (.getfield 9, 3) := by decide +kernel
theorem dX3_bytes_12 : decode cX3_bytes 12 = .ok (.iload_n 1, 1) := by decide +kernel
theorem dX3_bytes_13 : decode cX3_bytes 13 = .ok (.laload, 1) := by decide +kernel
theorem dX3_bytes_14 : decode cX3_bytes 14 = .ok (.goto 4, 3) := by decide +kernel
theorem dX3_bytes_17 : decode cX3_bytes 17 = .ok (.lconst 0, 1) := by decide +kernel
theorem dX3_bytes_18 : decode cX3_bytes 18 = .ok (.lreturn, 1) := by decide +kernel
theorem dX3_listener_0 : decode cX3_listener 0 = .ok (.iload_n 1, 1) := by decide +kernel
theorem dX3_listener_1 : decode cX3_listener 1 = .ok (.ifCond .lt 8, 3) := by decide +kernel
theorem dX3_listener_4 : decode cX3_listener 4 = .ok (.iload_n 1, 1) := by decide +kernel
theorem dX3_listener_5 : decode cX3_listener 5 = .ok (.iconst 4, 1) := by decide +kernel
theorem dX3_listener_6 : decode cX3_listener 6 = .ok (.if_icmp .le 6, 3) := by decide +kernel
theorem dX3_listener_9 : decode cX3_listener 9 = .ok (.bipush (-2), 2) := by decide +kernel
theorem dX3_listener_11 : decode cX3_listener 11 = .ok (.ireturn, 1) := by decide +kernel
theorem dX3_listener_12 : decode cX3_listener 12 = .ok (.aload_n 0, 1) := by decide +kernel
theorem dX3_listener_13 : decode cX3_listener 13 = .ok (.getfield 16, 3) := by decide +kernel
theorem dX3_listener_16 : decode cX3_listener 16 = .ok (.invokevirtual 58, 3) := by decide +kernel
theorem dX3_listener_19 : decode cX3_listener 19 = .ok (.bipush 10, 2) := by decide +kernel
theorem dX3_listener_21 : decode cX3_listener 21 = .ok (.if_icmp .lt 6, 3) := by decide +kernel
theorem dX3_listener_24 : decode cX3_listener 24 = .ok (.bipush (-4), 2) := by decide +kernel
theorem dX3_listener_26 : decode cX3_listener 26 = .ok (.ireturn, 1) := by decide +kernel
theorem dX3_listener_27 : decode cX3_listener 27 = .ok (.aload_n 0, 1) := by decide +kernel
theorem dX3_listener_28 : decode cX3_listener 28 = .ok (.getfield 16, 3) := by decide +kernel
theorem dX3_listener_31 : decode cX3_listener 31 = .ok (.new 62, 3) := by decide +kernel
theorem dX3_listener_34 : decode cX3_listener 34 = .ok (.dup, 1) := by decide +kernel
theorem dX3_listener_35 : decode cX3_listener 35 = .ok (.iload_n 1, 1) := by decide +kernel
theorem dX3_listener_36 : decode cX3_listener 36 = .ok (.invokespecial 64, 3) := by decide +kernel
theorem dX3_listener_39 : decode cX3_listener 39 = .ok (.invokevirtual 67, 3) := by decide +kernel
theorem dX3_listener_42 : decode cX3_listener 42 = .ok (.pop, 1) := by decide +kernel
theorem dX3_listener_43 : decode cX3_listener 43 = .ok (.aload_n 0, 1) := by decide +kernel
theorem dX3_listener_44 : decode cX3_listener 44 = .ok (.getfield 16, 3) := by decide +kernel
theorem dX3_listener_47 : decode cX3_listener 47 = .ok (.invokevirtual 58, 3) := by decide +kernel
theorem dX3_listener_50 : decode cX3_listener 50 = .ok (.iconst 1, 1) := by decide +kernel
theorem dX3_listener_51 : decode cX3_listener 51 = .ok (.isub, 1) := by decide +kernel
theorem dX3_listener_52 : decode cX3_listener 52 = .ok (.ireturn, 1) := by decide +kernel
theorem dX3_wants_0 : decode cX3_wants 0 = .ok (.aload_n 0, 1) := by decide +kernel
theorem dX3_wants_1 : decode cX3_wants 1 = .ok (.iload_n 1, 1) := by decide +kernel
theorem dX3_wants_2 : decode cX3_wants 2 = .ok (.invokevirtual 71, 3) := by decide +kernel
theorem dX3_wants_5 : decode cX3_wants 5 = .ok (.ifCond .eq 11, 3) := by decide +kernel
theorem dX3_wants_8 : decode cX3_wants 8 = .ok (.aload_n 0, 1) := by decide +kernel
theorem dX3_wants_9 : decode cX3_wants 9 = .ok (.iload_n 2, 1) := by decide +kernel
theorem dX3_wants_10 : decode cX3_wants 10 = .ok (.invokevirtual 54, 3) := by decide +kernel
theorem dX3_wants_13 : decode cX3_wants 13 = .ok (.ifCond .ne 5, 3) := by decide +kernel
theorem dX3_wants_16 : decode cX3_wants 16 = .ok (.iconst (-1), 1) := by decide +kernel
theorem dX3_wants_17 : decode cX3_wants 17 = .ok (.ireturn, 1) := by decide +kernel
theorem dX3_wants_18 : decode cX3_wants 18 = .ok (.aload_n 0, 1) := by decide +kernel
theorem dX3_wants_19 : decode cX3_wants 19 = .ok (.getfield 16, 3) := by decide +kernel
theorem dX3_wants_22 : decode cX3_wants 22 = .ok (.iload_n 1, 1) := by decide +kernel
theorem dX3_wants_23 : decode cX3_wants 23 = .ok (.invokevirtual 74, 3) := by decide +kernel
theorem dX3_wants_26 : decode cX3_wants 26 = .ok (.checkcast 62, 3) := by decide +kernel
theorem dX3_wants_29 : decode cX3_wants 29 = .ok (.astore_n 3, 1) := by decide +kernel
theorem dX3_wants_30 : decode cX3_wants 30 = .ok (.aload_n 3, 1) := by decide +kernel
theorem dX3_wants_31 : decode cX3_wants 31 = .ok (.getfield 78, 3) := by decide +kernel
theorem dX3_wants_34 : decode cX3_wants 34 = .ok (.iconst 2, 1) := by decide +kernel
theorem dX3_wants_35 : decode cX3_wants 35 = .ok (.if_icmp .ne 6, 3) := by decide +kernel
theorem dX3_wants_38 : decode cX3_wants 38 = .ok (.bipush (-3), 2) := by decide +kernel
theorem dX3_wants_40 : decode cX3_wants 40 = .ok (.ireturn, 1) := by decide +kernel
theorem dX3_wants_41 : decode cX3_wants 41 = .ok (.iload_n 2, 1) := by decide +kernel
theorem dX3_wants_42 : decode cX3_wants 42 = .ok (.aload_n 3, 1) := by decide +kernel
theorem dX3_wants_43 : decode cX3_wants 43 = .ok (.getfield 81, 3) := by decide +kernel
theorem dX3_wants_46 : decode cX3_wants 46 = .ok (.invokestatic 84, 3) := by decide +kernel
theorem dX3_wants_49 : decode cX3_wants 49 = .ok (.ifCond .eq 5, 3) := by decide +kernel
theorem dX3_wants_52 : decode cX3_wants 52 = .ok (.iconst 0, 1) := by decide +kernel
theorem dX3_wants_53 : decode cX3_wants 53 = .ok (.ireturn, 1) := by decide +kernel
theorem dX3_wants_54 : decode cX3_wants 54 = .ok (.aload_n 3, 1) := by decide +kernel
theorem dX3_wants_55 : decode cX3_wants 55 = .ok (.getfield 78, 3) := by decide +kernel
theorem dX3_wants_58 : decode cX3_wants 58 = .ok (.ifCond .ne 13, 3) := by decide +kernel
theorem dX3_wants_61 : decode cX3_wants 61 = .ok (.aload_n 3, 1) := by decide +kernel
theorem dX3_wants_62 : decode cX3_wants 62 = .ok (.getfield 81, 3) := by decide +kernel
theorem dX3_wants_65 : decode cX3_wants 65 = .ok (.ifCond .eq 6, 3) := by decide +kernel
theorem dX3_wants_68 : decode cX3_wants 68 = .ok (.bipush (-4), 2) := by decide +kernel
theorem dX3_wants_70 : decode cX3_wants 70 = .ok (.ireturn, 1) := by decide +kernel
theorem dX3_wants_71 : decode cX3_wants 71 = .ok (.aload_n 3, 1) := by decide +kernel
theorem dX3_wants_72 : decode cX3_wants 72 = .ok (.dup, 1) := by decide +kernel
theorem dX3_wants_73 : decode cX3_wants 73 = .ok (.getfield 81, 3) := by decide +kernel
theorem dX3_wants_76 : decode cX3_wants 76 = .ok (.iconst 1, 1) := by decide +kernel
theorem dX3_wants_77 : decode cX3_wants 77 = .ok (.iload_n 2, 1) := by decide +kernel
theorem dX3_wants_78 : decode cX3_wants 78 = .ok (.ishl, 1) := by decide +kernel
theorem dX3_wants_79 : decode cX3_wants 79 = .ok (.ior, 1) := by decide +kernel
theorem dX3_wants_80 : decode cX3_wants 80 = .ok (.putfield 81, 3) := by decide +kernel
theorem dX3_wants_83 : decode cX3_wants 83 = .ok (.iconst 1, 1) := by decide +kernel
theorem dX3_wants_84 : decode cX3_wants 84 = .ok (.ireturn, 1) := by decide +kernel
theorem dX3_has_0 : decode cX3_has 0 = .ok (.aload_n 0, 1) := by decide +kernel
theorem dX3_has_1 : decode cX3_has 1 = .ok (.iload_n 1, 1) := by decide +kernel
theorem dX3_has_2 : decode cX3_has 2 = .ok (.invokevirtual 71, 3) := by decide +kernel
theorem dX3_has_5 : decode cX3_has 5 = .ok (.ifCond .ne 5, 3) := by decide +kernel
theorem dX3_has_8 : decode cX3_has 8 = .ok (.iconst (-1), 1) := by decide +kernel
theorem dX3_has_9 : decode cX3_has 9 = .ok (.ireturn, 1) := by decide +kernel
theorem dX3_has_10 : decode cX3_has 10 = .ok (.aload_n 0, 1) := by decide +kernel
theorem dX3_has_11 : decode cX3_has 11 = .ok (.getfield 16, 3) := by decide +kernel
theorem dX3_has_14 : decode cX3_has 14 = .ok (.iload_n 1, 1) := by decide +kernel
theorem dX3_has_15 : decode cX3_has 15 = .ok (.invokevirtual 74, 3) := by decide +kernel
theorem dX3_has_18 : decode cX3_has 18 = .ok (.checkcast 62, 3) := by decide +kernel
theorem dX3_has_21 : decode cX3_has 21 = .ok (.astore_n 3, 1) := by decide +kernel
theorem dX3_has_22 : decode cX3_has 22 = .ok (.aload_n 0, 1) := by decide +kernel
theorem dX3_has_23 : decode cX3_has 23 = .ok (.iload_n 2, 1) := by decide +kernel
theorem dX3_has_24 : decode cX3_has 24 = .ok (.invokevirtual 88, 3) := by decide +kernel
theorem dX3_has_27 : decode cX3_has 27 = .ok (.ifCond .eq 11, 3) := by decide +kernel
theorem dX3_has_30 : decode cX3_has 30 = .ok (.aload_n 3, 1) := by decide +kernel
theorem dX3_has_31 : decode cX3_has 31 = .ok (.iload_n 2, 1) := by decide +kernel
theorem dX3_has_32 : decode cX3_has 32 = .ok (.invokevirtual 91, 3) := by decide +kernel
theorem dX3_has_35 : decode cX3_has 35 = .ok (.ifCond .ne 6, 3) := by decide +kernel
theorem dX3_has_38 : decode cX3_has 38 = .ok (.bipush (-2), 2) := by decide +kernel
theorem dX3_has_40 : decode cX3_has 40 = .ok (.ireturn, 1) := by decide +kernel
theorem dX3_has_41 : decode cX3_has 41 = .ok (.aload_n 0, 1) := by decide +kernel
theorem dX3_has_42 : decode cX3_has 42 = .ok (.getfield 47, 3) := by decide +kernel
theorem dX3_has_45 : decode cX3_has 45 = .ok (.ifCond .le 6, 3) := by decide +kernel
theorem dX3_has_48 : decode cX3_has 48 = .ok (.bipush (-5), 2) := by decide +kernel
theorem dX3_has_50 : decode cX3_has 50 = .ok (.ireturn, 1) := by decide +kernel
theorem dX3_has_51 : decode cX3_has 51 = .ok (.aload_n 3, 1) := by decide +kernel
theorem dX3_has_52 : decode cX3_has 52 = .ok (.getfield 94, 3) := by decide +kernel
theorem dX3_has_55 : decode cX3_has 55 = .ok (.bipush 12, 2) := by decide +kernel
theorem dX3_has_57 : decode cX3_has 57 = .ok (.if_icmp .lt 6, 3) := by decide +kernel
theorem dX3_has_60 : decode cX3_has 60 = .ok (.bipush (-4), 2) := by decide +kernel
theorem dX3_has_62 : decode cX3_has 62 = .ok (.ireturn, 1) := by decide +kernel
theorem dX3_has_63 : decode cX3_has 63 = .ok (.aload_n 3, 1) := by decide +kernel
theorem dX3_has_64 : decode cX3_has 64 = .ok (.iload_n 2, 1) := by decide +kernel
theorem dX3_has_65 : decode cX3_has 65 = .ok (.invokevirtual 97, 3) := by decide +kernel
theorem dX3_has_68 : decode cX3_has 68 = .ok (.aload_n 3, 1) := by decide +kernel
theorem dX3_has_69 : decode cX3_has 69 = .ok (.getfield 94, 3) := by decide +kernel
theorem dX3_has_72 : decode cX3_has 72 = .ok (.ireturn, 1) := by decide +kernel
theorem dX3_off_0 : decode cX3_off 0 = .ok (.aload_n 0, 1) := by decide +kernel
theorem dX3_off_1 : decode cX3_off 1 = .ok (.iload_n 1, 1) := by decide +kernel
theorem dX3_off_2 : decode cX3_off 2 = .ok (.invokevirtual 71, 3) := by decide +kernel
theorem dX3_off_5 : decode cX3_off 5 = .ok (.ifCond .ne 5, 3) := by decide +kernel
theorem dX3_off_8 : decode cX3_off 8 = .ok (.iconst (-1), 1) := by decide +kernel
theorem dX3_off_9 : decode cX3_off 9 = .ok (.ireturn, 1) := by decide +kernel
theorem dX3_off_10 : decode cX3_off 10 = .ok (.aload_n 0, 1) := by decide +kernel
theorem dX3_off_11 : decode cX3_off 11 = .ok (.getfield 16, 3) := by decide +kernel
theorem dX3_off_14 : decode cX3_off 14 = .ok (.iload_n 1, 1) := by decide +kernel
theorem dX3_off_15 : decode cX3_off 15 = .ok (.invokevirtual 74, 3) := by decide +kernel
theorem dX3_off_18 : decode cX3_off 18 = .ok (.checkcast 62, 3) := by decide +kernel
theorem dX3_off_21 : decode cX3_off 21 = .ok (.astore_n 3, 1) := by decide +kernel
theorem dX3_off_22 : decode cX3_off 22 = .ok (.aload_n 3, 1) := by decide +kernel
theorem dX3_off_23 : decode cX3_off 23 = .ok (.getfield 78, 3) := by decide +kernel
theorem dX3_off_26 : decode cX3_off 26 = .ok (.iconst 4, 1) := by decide +kernel
theorem dX3_off_27 : decode cX3_off 27 = .ok (.if_icmp .eq 6, 3) := by decide +kernel
theorem dX3_off_30 : decode cX3_off 30 = .ok (.bipush (-3), 2) := by decide +kernel
theorem dX3_off_32 : decode cX3_off 32 = .ok (.ireturn, 1) := by decide +kernel
theorem dX3_off_33 : decode cX3_off 33 = .ok (.iload_n 2, 1) := by decide +kernel
theorem dX3_off_34 : decode cX3_off 34 = .ok (.ifCond .eq 11, 3) := by decide +kernel
theorem dX3_off_37 : decode cX3_off 37 = .ok (.iload_n 2, 1) := by decide +kernel
theorem dX3_off_38 : decode cX3_off 38 = .ok (.iconst 1, 1) := by decide +kernel
theorem dX3_off_39 : decode cX3_off 39 = .ok (.if_icmp .eq 6, 3) := by decide +kernel
theorem dX3_off_42 : decode cX3_off 42 = .ok (.bipush (-2), 2) := by decide +kernel
theorem dX3_off_44 : decode cX3_off 44 = .ok (.ireturn, 1) := by decide +kernel
theorem dX3_off_45 : decode cX3_off 45 = .ok (.aload_n 3, 1) := by decide +kernel
theorem dX3_off_46 : decode cX3_off 46 = .ok (.getfield 100, 3) := by decide +kernel
theorem dX3_off_49 : decode cX3_off 49 = .ok (.invokestatic 104, 3) := by decide +kernel
theorem dX3_off_52 : decode cX3_off 52 = .ok (.istore 4, 2) := by decide +kernel
theorem dX3_off_54 : decode cX3_off 54 = .ok (.aload_n 3, 1) := by decide +kernel
theorem dX3_off_55 : decode cX3_off 55 = .ok (.iload_n 2, 1) := by decide +kernel
theorem dX3_off_56 : decode cX3_off 56 = .ok (.iconst 1, 1) := by decide +kernel
theorem dX3_off_57 : decode cX3_off 57 = .ok (.if_icmp .ne 7, 3) := by decide +kernel
theorem dX3_off_60 : decode cX3_off 60 = .ok (.iconst 1, 1) := by decide +kernel
theorem dX3_off_61 : decode cX3_off 61 = .ok (.goto 4, 3) := by decide +kernel
theorem dX3_off_64 : decode cX3_off 64 = .ok (.iconst 0, 1) := by decide +kernel
theorem dX3_off_65 : decode cX3_off 65 = .ok (.putfield 100, 3) := by decide +kernel
theorem dX3_off_68 : decode cX3_off 68 = .ok (.iload 4, 2) := by decide +kernel
theorem dX3_off_70 : decode cX3_off 70 = .ok (.ireturn, 1) := by decide +kernel
theorem dX3_say_0 : decode cX3_say 0 = .ok (.aload_n 0, 1) := by decide +kernel
theorem dX3_say_1 : decode cX3_say 1 = .ok (.iload_n 1, 1) := by decide +kernel
theorem dX3_say_2 : decode cX3_say 2 = .ok (.invokevirtual 88, 3) := by decide +kernel
theorem dX3_say_5 : decode cX3_say 5 = .ok (.ifCond .ne 6, 3) := by decide +kernel
theorem dX3_say_8 : decode cX3_say 8 = .ok (.bipush (-2), 2) := by decide +kernel
theorem dX3_say_10 : decode cX3_say 10 = .ok (.ireturn, 1) := by decide +kernel
theorem dX3_say_11 : decode cX3_say 11 = .ok (.aload_n 0, 1) := by decide +kernel
theorem dX3_say_12 : decode cX3_say 12 = .ok (.iload_n 1, 1) := by decide +kernel
theorem dX3_say_13 : decode cX3_say 13 = .ok (.invokevirtual 108, 3) := by decide +kernel
theorem dX3_say_16 : decode cX3_say 16 = .ok (.ireturn, 1) := by decide +kernel
theorem dX3_again_0 : decode cX3_again 0 = .ok (.aload_n 0, 1) := by decide +kernel
theorem dX3_again_1 : decode cX3_again 1 = .ok (.iload_n 1, 1) := by decide +kernel
theorem dX3_again_2 : decode cX3_again 2 = .ok (.invokevirtual 112, 3) := by decide +kernel
theorem dX3_again_5 : decode cX3_again 5 = .ok (.ifCond .ne 5, 3) := by decide +kernel
theorem dX3_again_8 : decode cX3_again 8 = .ok (.iconst (-1), 1) := by decide +kernel
theorem dX3_again_9 : decode cX3_again 9 = .ok (.ireturn, 1) := by decide +kernel
theorem dX3_again_10 : decode cX3_again 10 = .ok (.aload_n 0, 1) := by decide +kernel
theorem dX3_again_11 : decode cX3_again 11 = .ok (.aload_n 0, 1) := by decide +kernel
theorem dX3_again_12 : decode cX3_again 12 = .ok (.getfield 20, 3) := by decide +kernel
theorem dX3_again_15 : decode cX3_again 15 = .ok (.iload_n 1, 1) := by decide +kernel
theorem dX3_again_16 : decode cX3_again 16 = .ok (.iaload, 1) := by decide +kernel
theorem dX3_again_17 : decode cX3_again 17 = .ok (.invokevirtual 108, 3) := by decide +kernel
theorem dX3_again_20 : decode cX3_again 20 = .ok (.ireturn, 1) := by decide +kernel
theorem dX3_call_0 : decode cX3_call 0 = .ok (.aload_n 0, 1) := by decide +kernel
theorem dX3_call_1 : decode cX3_call 1 = .ok (.iload_n 1, 1) := by decide +kernel
theorem dX3_call_2 : decode cX3_call 2 = .ok (.invokevirtual 112, 3) := by decide +kernel
theorem dX3_call_5 : decode cX3_call 5 = .ok (.ifCond .ne 5, 3) := by decide +kernel
theorem dX3_call_8 : decode cX3_call 8 = .ok (.iconst (-1), 1) := by decide +kernel
theorem dX3_call_9 : decode cX3_call 9 = .ok (.ireturn, 1) := by decide +kernel
theorem dX3_call_10 : decode cX3_call 10 = .ok (.iload_n 2, 1) := by decide +kernel
theorem dX3_call_11 : decode cX3_call 11 = .ok (.tableswitch 46 0 2 #[25, 32, 39], 25) := by decide +kernel
theorem dX3_call_36 : decode cX3_call 36 = .ok (.aload_n 0, 1) := by decide +kernel
theorem dX3_call_37 : decode cX3_call 37 = .ok (.getfield 20, 3) := by decide +kernel
theorem dX3_call_40 : decode cX3_call 40 = .ok (.iload_n 1, 1) := by decide +kernel
theorem dX3_call_41 : decode cX3_call 41 = .ok (.iaload, 1) := by decide +kernel
theorem dX3_call_42 : decode cX3_call 42 = .ok (.ireturn, 1) := by decide +kernel
theorem dX3_call_43 : decode cX3_call 43 = .ok (.aload_n 0, 1) := by decide +kernel
theorem dX3_call_44 : decode cX3_call 44 = .ok (.getfield 24, 3) := by decide +kernel
theorem dX3_call_47 : decode cX3_call 47 = .ok (.iload_n 1, 1) := by decide +kernel
theorem dX3_call_48 : decode cX3_call 48 = .ok (.iaload, 1) := by decide +kernel
theorem dX3_call_49 : decode cX3_call 49 = .ok (.ireturn, 1) := by decide +kernel
theorem dX3_call_50 : decode cX3_call 50 = .ok (.aload_n 0, 1) := by decide +kernel
theorem dX3_call_51 : decode cX3_call 51 = .ok (.getfield 27, 3) := by decide +kernel
theorem dX3_call_54 : decode cX3_call 54 = .ok (.iload_n 1, 1) := by decide +kernel
theorem dX3_call_55 : decode cX3_call 55 = .ok (.iaload, 1) := by decide +kernel
theorem dX3_call_56 : decode cX3_call 56 = .ok (.ireturn, 1) := by decide +kernel
theorem dX3_call_57 : decode cX3_call 57 = .ok (.iconst (-1), 1) := by decide +kernel
theorem dX3_call_58 : decode cX3_call 58 = .ok (.ireturn, 1) := by decide +kernel
theorem dX3_sum_0 : decode cX3_sum 0 = .ok (.aload_n 0, 1) := by decide +kernel
theorem dX3_sum_1 : decode cX3_sum 1 = .ok (.iload_n 1, 1) := by decide +kernel
theorem dX3_sum_2 : decode cX3_sum 2 = .ok (.invokevirtual 112, 3) := by decide +kernel
theorem dX3_sum_5 : decode cX3_sum 5 = .ok (.ifCond .eq 16, 3) := by decide +kernel
theorem dX3_sum_8 : decode cX3_sum 8 = .ok (.aload_n 0, 1) := by decide +kernel
theorem dX3_sum_9 : decode cX3_sum 9 = .ok (.aload_n 0, 1) := by decide +kernel
theorem dX3_sum_10 : decode cX3_sum 10 = .ok (.getfield 20, 3) := by decide +kernel
theorem dX3_sum_13 : decode cX3_sum 13 = .ok (.iload_n 1, 1) := by decide +kernel
theorem dX3_sum_14 : decode cX3_sum 14 = .ok (.iaload, 1) := by decide +kernel
theorem dX3_sum_15 : decode cX3_sum 15 = .ok (.invokevirtual 115, 3) := by decide +kernel
theorem dX3_sum_18 : decode cX3_sum 18 = .ok (.goto 4, 3) := by decide +kernel
theorem dX3_sum_21 : decode cX3_sum 21 = .ok (.lconst 0, 1) := by decide +kernel
theorem dX3_sum_22 : decode cX3_sum 22 = .ok (.lreturn, 1) := by decide +kernel
theorem dX3_heard_0 : decode cX3_heard 0 = .ok (.aload_n 0, 1) := by decide +kernel
theorem dX3_heard_1 : decode cX3_heard 1 = .ok (.iload_n 1, 1) := by decide +kernel
theorem dX3_heard_2 : decode cX3_heard 2 = .ok (.invokevirtual 71, 3) := by decide +kernel
theorem dX3_heard_5 : decode cX3_heard 5 = .ok (.ifCond .eq 11, 3) := by decide +kernel
theorem dX3_heard_8 : decode cX3_heard 8 = .ok (.aload_n 0, 1) := by decide +kernel
theorem dX3_heard_9 : decode cX3_heard 9 = .ok (.iload_n 2, 1) := by decide +kernel
theorem dX3_heard_10 : decode cX3_heard 10 = .ok (.invokevirtual 112, 3) := by decide +kernel
theorem dX3_heard_13 : decode cX3_heard 13 = .ok (.ifCond .ne 5, 3) := by decide +kernel
theorem dX3_heard_16 : decode cX3_heard 16 = .ok (.iconst (-1), 1) := by decide +kernel
theorem dX3_heard_17 : decode cX3_heard 17 = .ok (.ireturn, 1) := by decide +kernel
theorem dX3_heard_18 : decode cX3_heard 18 = .ok (.aload_n 0, 1) := by decide +kernel
theorem dX3_heard_19 : decode cX3_heard 19 = .ok (.getfield 16, 3) := by decide +kernel
theorem dX3_heard_22 : decode cX3_heard 22 = .ok (.iload_n 1, 1) := by decide +kernel
theorem dX3_heard_23 : decode cX3_heard 23 = .ok (.invokevirtual 74, 3) := by decide +kernel
theorem dX3_heard_26 : decode cX3_heard 26 = .ok (.checkcast 62, 3) := by decide +kernel
theorem dX3_heard_29 : decode cX3_heard 29 = .ok (.getfield 119, 3) := by decide +kernel
theorem dX3_heard_32 : decode cX3_heard 32 = .ok (.iload_n 2, 1) := by decide +kernel
theorem dX3_heard_33 : decode cX3_heard 33 = .ok (.lshr, 1) := by decide +kernel
theorem dX3_heard_34 : decode cX3_heard 34 = .ok (.lconst 1, 1) := by decide +kernel
theorem dX3_heard_35 : decode cX3_heard 35 = .ok (.land, 1) := by decide +kernel
theorem dX3_heard_36 : decode cX3_heard 36 = .ok (.l2i, 1) := by decide +kernel
theorem dX3_heard_37 : decode cX3_heard 37 = .ok (.ireturn, 1) := by decide +kernel
theorem dX3_about_0 : decode cX3_about 0 = .ok (.aload_n 0, 1) := by decide +kernel
theorem dX3_about_1 : decode cX3_about 1 = .ok (.iload_n 1, 1) := by decide +kernel
theorem dX3_about_2 : decode cX3_about 2 = .ok (.invokevirtual 71, 3) := by decide +kernel
theorem dX3_about_5 : decode cX3_about 5 = .ok (.ifCond .ne 5, 3) := by decide +kernel
theorem dX3_about_8 : decode cX3_about 8 = .ok (.iconst (-1), 1) := by decide +kernel
theorem dX3_about_9 : decode cX3_about 9 = .ok (.ireturn, 1) := by decide +kernel
theorem dX3_about_10 : decode cX3_about 10 = .ok (.aload_n 0, 1) := by decide +kernel
theorem dX3_about_11 : decode cX3_about 11 = .ok (.getfield 16, 3) := by decide +kernel
theorem dX3_about_14 : decode cX3_about 14 = .ok (.iload_n 1, 1) := by decide +kernel
theorem dX3_about_15 : decode cX3_about 15 = .ok (.invokevirtual 74, 3) := by decide +kernel
theorem dX3_about_18 : decode cX3_about 18 = .ok (.checkcast 62, 3) := by decide +kernel
theorem dX3_about_21 : decode cX3_about 21 = .ok (.astore_n 3, 1) := by decide +kernel
theorem dX3_about_22 : decode cX3_about 22 = .ok (.iload_n 2, 1) := by decide +kernel
theorem dX3_about_23 : decode cX3_about 23 = .ok (.tableswitch 103 0 7 #[45, 50, 55, 60, 68, 81, 86, 95], 45) := by decide +kernel
theorem dX3_about_68 : decode cX3_about 68 = .ok (.aload_n 3, 1) := by decide +kernel
theorem dX3_about_69 : decode cX3_about 69 = .ok (.getfield 78, 3) := by decide +kernel
theorem dX3_about_72 : decode cX3_about 72 = .ok (.ireturn, 1) := by decide +kernel
theorem dX3_about_73 : decode cX3_about 73 = .ok (.aload_n 3, 1) := by decide +kernel
theorem dX3_about_74 : decode cX3_about 74 = .ok (.getfield 94, 3) := by decide +kernel
theorem dX3_about_77 : decode cX3_about 77 = .ok (.ireturn, 1) := by decide +kernel
theorem dX3_about_78 : decode cX3_about 78 = .ok (.aload_n 3, 1) := by decide +kernel
theorem dX3_about_79 : decode cX3_about 79 = .ok (.getfield 123, 3) := by decide +kernel
theorem dX3_about_82 : decode cX3_about 82 = .ok (.ireturn, 1) := by decide +kernel
theorem dX3_about_83 : decode cX3_about 83 = .ok (.aload_n 3, 1) := by decide +kernel
theorem dX3_about_84 : decode cX3_about 84 = .ok (.getfield 126, 3) := by decide +kernel
theorem dX3_about_87 : decode cX3_about 87 = .ok (.getfield 129, 3) := by decide +kernel
theorem dX3_about_90 : decode cX3_about 90 = .ok (.ireturn, 1) := by decide +kernel
theorem dX3_about_91 : decode cX3_about 91 = .ok (.aload_n 0, 1) := by decide +kernel
theorem dX3_about_92 : decode cX3_about 92 = .ok (.getfield 51, 3) := by decide +kernel
theorem dX3_about_95 : decode cX3_about 95 = .ok (.aload_n 3, 1) := by decide +kernel
theorem dX3_about_96 : decode cX3_about 96 = .ok (.getfield 126, 3) := by decide +kernel
theorem dX3_about_99 : decode cX3_about 99 = .ok (.getfield 129, 3) := by decide +kernel
theorem dX3_about_102 : decode cX3_about 102 = .ok (.isub, 1) := by decide +kernel
theorem dX3_about_103 : decode cX3_about 103 = .ok (.ireturn, 1) := by decide +kernel
theorem dX3_about_104 : decode cX3_about 104 = .ok (.aload_n 3, 1) := by decide +kernel
theorem dX3_about_105 : decode cX3_about 105 = .ok (.getfield 81, 3) := by decide +kernel
theorem dX3_about_108 : decode cX3_about 108 = .ok (.ireturn, 1) := by decide +kernel
theorem dX3_about_109 : decode cX3_about 109 = .ok (.aload_n 0, 1) := by decide +kernel
theorem dX3_about_110 : decode cX3_about 110 = .ok (.aload_n 3, 1) := by decide +kernel
theorem dX3_about_111 : decode cX3_about 111 = .ok (.invokevirtual 132, 3) := by decide +kernel
theorem dX3_about_114 : decode cX3_about 114 = .ok (.invokestatic 104, 3) := by decide +kernel
theorem dX3_about_117 : decode cX3_about 117 = .ok (.ireturn, 1) := by decide +kernel
theorem dX3_about_118 : decode cX3_about 118 = .ok (.aload_n 3, 1) := by decide +kernel
theorem dX3_about_119 : decode cX3_about 119 = .ok (.getfield 100, 3) := by decide +kernel
theorem dX3_about_122 : decode cX3_about 122 = .ok (.invokestatic 104, 3) := by decide +kernel
theorem dX3_about_125 : decode cX3_about 125 = .ok (.ireturn, 1) := by decide +kernel
theorem dX3_about_126 : decode cX3_about 126 = .ok (.iconst (-1), 1) := by decide +kernel
theorem dX3_about_127 : decode cX3_about 127 = .ok (.ireturn, 1) := by decide +kernel
theorem dX3_rowOf_0 : decode cX3_rowOf 0 = .ok (.aload_n 0, 1) := by decide +kernel
theorem dX3_rowOf_1 : decode cX3_rowOf 1 = .ok (.iload_n 1, 1) := by decide +kernel
theorem dX3_rowOf_2 : decode cX3_rowOf 2 = .ok (.invokevirtual 71, 3) := by decide +kernel
theorem dX3_rowOf_5 : decode cX3_rowOf 5 = .ok (.ifCond .ne 5, 3) := by decide +kernel
theorem dX3_rowOf_8 : decode cX3_rowOf 8 = .ok (.iconst (-1), 1) := by decide +kernel
theorem dX3_rowOf_9 : decode cX3_rowOf 9 = .ok (.ireturn, 1) := by decide +kernel
theorem dX3_rowOf_10 : decode cX3_rowOf 10 = .ok (.aload_n 0, 1) := by decide +kernel
theorem dX3_rowOf_11 : decode cX3_rowOf 11 = .ok (.getfield 16, 3) := by decide +kernel
theorem dX3_rowOf_14 : decode cX3_rowOf 14 = .ok (.iload_n 1, 1) := by decide +kernel
theorem dX3_rowOf_15 : decode cX3_rowOf 15 = .ok (.invokevirtual 74, 3) := by decide +kernel
theorem dX3_rowOf_18 : decode cX3_rowOf 18 = .ok (.checkcast 62, 3) := by decide +kernel
theorem dX3_rowOf_21 : decode cX3_rowOf 21 = .ok (.astore_n 3, 1) := by decide +kernel
theorem dX3_rowOf_22 : decode cX3_rowOf 22 = .ok (.iload_n 2, 1) := by decide +kernel
theorem dX3_rowOf_23 : decode cX3_rowOf 23 = .ok (.ifCond .lt 20, 3) := by decide +kernel
theorem dX3_rowOf_26 : decode cX3_rowOf 26 = .ok (.iload_n 2, 1) := by decide +kernel
theorem dX3_rowOf_27 : decode cX3_rowOf 27 = .ok (.aload_n 3, 1) := by decide +kernel
theorem dX3_rowOf_28 : decode cX3_rowOf 28 = .ok (.getfield 123, 3) := by decide +kernel
theorem dX3_rowOf_31 : decode cX3_rowOf 31 = .ok (.if_icmp .ge 12, 3) := by decide +kernel
theorem dX3_rowOf_34 : decode cX3_rowOf 34 = .ok (.aload_n 3, 1) := by decide +kernel
theorem dX3_rowOf_35 : decode cX3_rowOf 35 = .ok (.getfield 136, 3) := by decide +kernel
theorem dX3_rowOf_38 : decode cX3_rowOf 38 = .ok (.iload_n 2, 1) := by decide +kernel
theorem dX3_rowOf_39 : decode cX3_rowOf 39 = .ok (.iaload, 1) := by decide +kernel
theorem dX3_rowOf_40 : decode cX3_rowOf 40 = .ok (.goto 4, 3) := by decide +kernel
theorem dX3_rowOf_43 : decode cX3_rowOf 43 = .ok (.iconst (-1), 1) := by decide +kernel
theorem dX3_rowOf_44 : decode cX3_rowOf 44 = .ok (.ireturn, 1) := by decide +kernel
theorem dX3_solve_0 : decode cX3_solve 0 = .ok (.aload_n 0, 1) := by decide +kernel
theorem dX3_solve_1 : decode cX3_solve 1 = .ok (.iload_n 1, 1) := by decide +kernel
theorem dX3_solve_2 : decode cX3_solve 2 = .ok (.invokevirtual 71, 3) := by decide +kernel
theorem dX3_solve_5 : decode cX3_solve 5 = .ok (.ifCond .eq 11, 3) := by decide +kernel
theorem dX3_solve_8 : decode cX3_solve 8 = .ok (.aload_n 0, 1) := by decide +kernel
theorem dX3_solve_9 : decode cX3_solve 9 = .ok (.iload_n 2, 1) := by decide +kernel
theorem dX3_solve_10 : decode cX3_solve 10 = .ok (.invokevirtual 54, 3) := by decide +kernel
theorem dX3_solve_13 : decode cX3_solve 13 = .ok (.ifCond .ne 5, 3) := by decide +kernel
theorem dX3_solve_16 : decode cX3_solve 16 = .ok (.iconst (-1), 1) := by decide +kernel
theorem dX3_solve_17 : decode cX3_solve 17 = .ok (.ireturn, 1) := by decide +kernel
theorem dX3_solve_18 : decode cX3_solve 18 = .ok (.aload_n 0, 1) := by decide +kernel
theorem dX3_solve_19 : decode cX3_solve 19 = .ok (.iload_n 1, 1) := by decide +kernel
theorem dX3_solve_20 : decode cX3_solve 20 = .ok (.iload_n 2, 1) := by decide +kernel
theorem dX3_solve_21 : decode cX3_solve 21 = .ok (.invokevirtual 139, 3) := by decide +kernel
theorem dX3_solve_24 : decode cX3_solve 24 = .ok (.invokestatic 104, 3) := by decide +kernel
theorem dX3_solve_27 : decode cX3_solve 27 = .ok (.ireturn, 1) := by decide +kernel
theorem dX3_why_0 : decode cX3_why 0 = .ok (.aload_n 0, 1) := by decide +kernel
theorem dX3_why_1 : decode cX3_why 1 = .ok (.iload_n 1, 1) := by decide +kernel
theorem dX3_why_2 : decode cX3_why 2 = .ok (.iload_n 2, 1) := by decide +kernel
theorem dX3_why_3 : decode cX3_why 3 = .ok (.invokevirtual 139, 3) := by decide +kernel
theorem dX3_why_6 : decode cX3_why 6 = .ok (.ifCond .eq 25, 3) := by decide +kernel
theorem dX3_why_9 : decode cX3_why 9 = .ok (.aload_n 0, 1) := by decide +kernel
theorem dX3_why_10 : decode cX3_why 10 = .ok (.getfield 16, 3) := by decide +kernel
theorem dX3_why_13 : decode cX3_why 13 = .ok (.iload_n 1, 1) := by decide +kernel
theorem dX3_why_14 : decode cX3_why 14 = .ok (.invokevirtual 74, 3) := by decide +kernel
theorem dX3_why_17 : decode cX3_why 17 = .ok (.checkcast 62, 3) := by decide +kernel
theorem dX3_why_20 : decode cX3_why 20 = .ok (.getfield 126, 3) := by decide +kernel
theorem dX3_why_23 : decode cX3_why 23 = .ok (.getfield 142, 3) := by decide +kernel
theorem dX3_why_26 : decode cX3_why 26 = .ok (.iload_n 2, 1) := by decide +kernel
theorem dX3_why_27 : decode cX3_why 27 = .ok (.laload, 1) := by decide +kernel
theorem dX3_why_28 : decode cX3_why 28 = .ok (.goto 6, 3) := by decide +kernel
theorem dX3_why_31 : decode cX3_why 31 = .ok (.ldc2_w 145, 3) := by decide +kernel
theorem dX3_why_34 : decode cX3_why 34 = .ok (.lreturn, 1) := by decide +kernel
theorem dX3_gets_0 : decode cX3_gets 0 = .ok (.aload_n 0, 1) := by decide +kernel
theorem dX3_gets_1 : decode cX3_gets 1 = .ok (.iload_n 1, 1) := by decide +kernel
theorem dX3_gets_2 : decode cX3_gets 2 = .ok (.iload_n 2, 1) := by decide +kernel
theorem dX3_gets_3 : decode cX3_gets 3 = .ok (.invokevirtual 139, 3) := by decide +kernel
theorem dX3_gets_6 : decode cX3_gets 6 = .ok (.ifCond .ne 5, 3) := by decide +kernel
theorem dX3_gets_9 : decode cX3_gets 9 = .ok (.lconst 0, 1) := by decide +kernel
theorem dX3_gets_10 : decode cX3_gets 10 = .ok (.lreturn, 1) := by decide +kernel
theorem dX3_gets_11 : decode cX3_gets 11 = .ok (.aload_n 0, 1) := by decide +kernel
theorem dX3_gets_12 : decode cX3_gets 12 = .ok (.getfield 16, 3) := by decide +kernel
theorem dX3_gets_15 : decode cX3_gets 15 = .ok (.iload_n 1, 1) := by decide +kernel
theorem dX3_gets_16 : decode cX3_gets 16 = .ok (.invokevirtual 74, 3) := by decide +kernel
theorem dX3_gets_19 : decode cX3_gets 19 = .ok (.checkcast 62, 3) := by decide +kernel
theorem dX3_gets_22 : decode cX3_gets 22 = .ok (.astore_n 3, 1) := by decide +kernel
theorem dX3_gets_23 : decode cX3_gets 23 = .ok (.aload_n 3, 1) := by decide +kernel
theorem dX3_gets_24 : decode cX3_gets 24 = .ok (.getfield 126, 3) := by decide +kernel
theorem dX3_gets_27 : decode cX3_gets 27 = .ok (.getfield 142, 3) := by decide +kernel
theorem dX3_gets_30 : decode cX3_gets 30 = .ok (.iload_n 2, 1) := by decide +kernel
theorem dX3_gets_31 : decode cX3_gets 31 = .ok (.laload, 1) := by decide +kernel
theorem dX3_gets_32 : decode cX3_gets 32 = .ok (.lstore 4, 2) := by decide +kernel
theorem dX3_gets_34 : decode cX3_gets 34 = .ok (.lconst 0, 1) := by decide +kernel
theorem dX3_gets_35 : decode cX3_gets 35 = .ok (.lstore 6, 2) := by decide +kernel
theorem dX3_gets_37 : decode cX3_gets 37 = .ok (.iconst 0, 1) := by decide +kernel
theorem dX3_gets_38 : decode cX3_gets 38 = .ok (.istore 8, 2) := by decide +kernel
theorem dX3_gets_40 : decode cX3_gets 40 = .ok (.iload 8, 2) := by decide +kernel
theorem dX3_gets_42 : decode cX3_gets 42 = .ok (.aload_n 3, 1) := by decide +kernel
theorem dX3_gets_43 : decode cX3_gets 43 = .ok (.getfield 123, 3) := by decide +kernel
theorem dX3_gets_46 : decode cX3_gets 46 = .ok (.if_icmp .ge 37, 3) := by decide +kernel
theorem dX3_gets_49 : decode cX3_gets 49 = .ok (.lload 4, 2) := by decide +kernel
theorem dX3_gets_51 : decode cX3_gets 51 = .ok (.iload 8, 2) := by decide +kernel
theorem dX3_gets_53 : decode cX3_gets 53 = .ok (.lshr, 1) := by decide +kernel
theorem dX3_gets_54 : decode cX3_gets 54 = .ok (.lconst 1, 1) := by decide +kernel
theorem dX3_gets_55 : decode cX3_gets 55 = .ok (.land, 1) := by decide +kernel
theorem dX3_gets_56 : decode cX3_gets 56 = .ok (.lconst 0, 1) := by decide +kernel
theorem dX3_gets_57 : decode cX3_gets 57 = .ok (.lcmp, 1) := by decide +kernel
theorem dX3_gets_58 : decode cX3_gets 58 = .ok (.ifCond .eq 19, 3) := by decide +kernel
theorem dX3_gets_61 : decode cX3_gets 61 = .ok (.lload 6, 2) := by decide +kernel
theorem dX3_gets_63 : decode cX3_gets 63 = .ok (.aload_n 0, 1) := by decide +kernel
theorem dX3_gets_64 : decode cX3_gets 64 = .ok (.aload_n 3, 1) := by decide +kernel
theorem dX3_gets_65 : decode cX3_gets 65 = .ok (.getfield 136, 3) := by decide +kernel
theorem dX3_gets_68 : decode cX3_gets 68 = .ok (.iload 8, 2) := by decide +kernel
theorem dX3_gets_70 : decode cX3_gets 70 = .ok (.iaload, 1) := by decide +kernel
theorem dX3_gets_71 : decode cX3_gets 71 = .ok (.invokevirtual 115, 3) := by decide +kernel
theorem dX3_gets_74 : decode cX3_gets 74 = .ok (.lxor, 1) := by decide +kernel
theorem dX3_gets_75 : decode cX3_gets 75 = .ok (.lstore 6, 2) := by decide +kernel
theorem dX3_gets_77 : decode cX3_gets 77 = .ok (.iinc 8 1, 3) := by decide +kernel
theorem dX3_gets_80 : decode cX3_gets 80 = .ok (.goto (-40), 3) := by decide +kernel
theorem dX3_gets_83 : decode cX3_gets 83 = .ok (.lload 6, 2) := by decide +kernel
theorem dX3_gets_85 : decode cX3_gets 85 = .ok (.lreturn, 1) := by decide +kernel
theorem dX3_lack_0 : decode cX3_lack 0 = .ok (.aload_n 0, 1) := by decide +kernel
theorem dX3_lack_1 : decode cX3_lack 1 = .ok (.iload_n 1, 1) := by decide +kernel
theorem dX3_lack_2 : decode cX3_lack 2 = .ok (.invokevirtual 71, 3) := by decide +kernel
theorem dX3_lack_5 : decode cX3_lack 5 = .ok (.ifCond .eq 20, 3) := by decide +kernel
theorem dX3_lack_8 : decode cX3_lack 8 = .ok (.aload_n 0, 1) := by decide +kernel
theorem dX3_lack_9 : decode cX3_lack 9 = .ok (.iload_n 2, 1) := by decide +kernel
theorem dX3_lack_10 : decode cX3_lack 10 = .ok (.invokevirtual 54, 3) := by decide +kernel
theorem dX3_lack_13 : decode cX3_lack 13 = .ok (.ifCond .eq 12, 3) := by decide +kernel
theorem dX3_lack_16 : decode cX3_lack 16 = .ok (.aload_n 0, 1) := by decide +kernel
theorem dX3_lack_17 : decode cX3_lack 17 = .ok (.iload_n 1, 1) := by decide +kernel
theorem dX3_lack_18 : decode cX3_lack 18 = .ok (.iload_n 2, 1) := by decide +kernel
theorem dX3_lack_19 : decode cX3_lack 19 = .ok (.invokevirtual 139, 3) := by decide +kernel
theorem dX3_lack_22 : decode cX3_lack 22 = .ok (.ifCond .eq 5, 3) := by decide +kernel
theorem dX3_lack_25 : decode cX3_lack 25 = .ok (.iconst (-1), 1) := by decide +kernel
theorem dX3_lack_26 : decode cX3_lack 26 = .ok (.ireturn, 1) := by decide +kernel
theorem dX3_lack_27 : decode cX3_lack 27 = .ok (.aload_n 0, 1) := by decide +kernel
theorem dX3_lack_28 : decode cX3_lack 28 = .ok (.getfield 16, 3) := by decide +kernel
theorem dX3_lack_31 : decode cX3_lack 31 = .ok (.iload_n 1, 1) := by decide +kernel
theorem dX3_lack_32 : decode cX3_lack 32 = .ok (.invokevirtual 74, 3) := by decide +kernel
theorem dX3_lack_35 : decode cX3_lack 35 = .ok (.checkcast 62, 3) := by decide +kernel
theorem dX3_lack_38 : decode cX3_lack 38 = .ok (.astore_n 3, 1) := by decide +kernel
theorem dX3_lack_39 : decode cX3_lack 39 = .ok (.iconst 1, 1) := by decide +kernel
theorem dX3_lack_40 : decode cX3_lack 40 = .ok (.iload_n 2, 1) := by decide +kernel
theorem dX3_lack_41 : decode cX3_lack 41 = .ok (.ishl, 1) := by decide +kernel
theorem dX3_lack_42 : decode cX3_lack 42 = .ok (.istore 4, 2) := by decide +kernel
theorem dX3_lack_44 : decode cX3_lack 44 = .ok (.iload 4, 2) := by decide +kernel
theorem dX3_lack_46 : decode cX3_lack 46 = .ok (.aload_n 0, 1) := by decide +kernel
theorem dX3_lack_47 : decode cX3_lack 47 = .ok (.invokevirtual 147, 3) := by decide +kernel
theorem dX3_lack_50 : decode cX3_lack 50 = .ok (.if_icmp .gt 30, 3) := by decide +kernel
theorem dX3_lack_53 : decode cX3_lack 53 = .ok (.iload_n 2, 1) := by decide +kernel
theorem dX3_lack_54 : decode cX3_lack 54 = .ok (.iload 4, 2) := by decide +kernel
theorem dX3_lack_56 : decode cX3_lack 56 = .ok (.invokestatic 84, 3) := by decide +kernel
theorem dX3_lack_59 : decode cX3_lack 59 = .ok (.ifCond .eq 15, 3) := by decide +kernel
theorem dX3_lack_62 : decode cX3_lack 62 = .ok (.aload_n 3, 1) := by decide +kernel
theorem dX3_lack_63 : decode cX3_lack 63 = .ok (.iload 4, 2) := by decide +kernel
theorem dX3_lack_65 : decode cX3_lack 65 = .ok (.invokevirtual 150, 3) := by decide +kernel
theorem dX3_lack_68 : decode cX3_lack 68 = .ok (.ifCond .eq 6, 3) := by decide +kernel
theorem dX3_lack_71 : decode cX3_lack 71 = .ok (.iload 4, 2) := by decide +kernel
theorem dX3_lack_73 : decode cX3_lack 73 = .ok (.ireturn, 1) := by decide +kernel
theorem dX3_lack_74 : decode cX3_lack 74 = .ok (.iinc 4 1, 3) := by decide +kernel
theorem dX3_lack_77 : decode cX3_lack 77 = .ok (.goto (-33), 3) := by decide +kernel
theorem dX3_lack_80 : decode cX3_lack 80 = .ok (.iconst (-1), 1) := by decide +kernel
theorem dX3_lack_81 : decode cX3_lack 81 = .ok (.ireturn, 1) := by decide +kernel
theorem dX3_left_0 : decode cX3_left 0 = .ok (.aload_n 0, 1) := by decide +kernel
theorem dX3_left_1 : decode cX3_left 1 = .ok (.getfield 16, 3) := by decide +kernel
theorem dX3_left_4 : decode cX3_left 4 = .ok (.invokevirtual 58, 3) := by decide +kernel
theorem dX3_left_7 : decode cX3_left 7 = .ok (.aload_n 0, 1) := by decide +kernel
theorem dX3_left_8 : decode cX3_left 8 = .ok (.invokevirtual 153, 3) := by decide +kernel
theorem dX3_left_11 : decode cX3_left 11 = .ok (.isub, 1) := by decide +kernel
theorem dX3_left_12 : decode cX3_left 12 = .ok (.ireturn, 1) := by decide +kernel
theorem dX3_needs_0 : decode cX3_needs 0 = .ok (.aload_n 0, 1) := by decide +kernel
theorem dX3_needs_1 : decode cX3_needs 1 = .ok (.invokevirtual 156, 3) := by decide +kernel
theorem dX3_needs_4 : decode cX3_needs 4 = .ok (.aload_n 0, 1) := by decide +kernel
theorem dX3_needs_5 : decode cX3_needs 5 = .ok (.getfield 33, 3) := by decide +kernel
theorem dX3_needs_8 : decode cX3_needs 8 = .ok (.getfield 159, 3) := by decide +kernel
theorem dX3_needs_11 : decode cX3_needs 11 = .ok (.ireturn, 1) := by decide +kernel
theorem dX3_need_0 : decode cX3_need 0 = .ok (.aload_n 0, 1) := by decide +kernel
theorem dX3_need_1 : decode cX3_need 1 = .ok (.invokevirtual 156, 3) := by decide +kernel
theorem dX3_need_4 : decode cX3_need 4 = .ok (.iload_n 1, 1) := by decide +kernel
theorem dX3_need_5 : decode cX3_need 5 = .ok (.ifCond .lt 14, 3) := by decide +kernel
theorem dX3_need_8 : decode cX3_need 8 = .ok (.iload_n 1, 1) := by decide +kernel
theorem dX3_need_9 : decode cX3_need 9 = .ok (.aload_n 0, 1) := by decide +kernel
theorem dX3_need_10 : decode cX3_need 10 = .ok (.getfield 33, 3) := by decide +kernel
theorem dX3_need_13 : decode cX3_need 13 = .ok (.getfield 159, 3) := by decide +kernel
theorem dX3_need_16 : decode cX3_need 16 = .ok (.if_icmp .lt 5, 3) := by decide +kernel
theorem dX3_need_19 : decode cX3_need 19 = .ok (.iconst (-1), 1) := by decide +kernel
theorem dX3_need_20 : decode cX3_need 20 = .ok (.ireturn, 1) := by decide +kernel
theorem dX3_need_21 : decode cX3_need 21 = .ok (.iload_n 2, 1) := by decide +kernel
theorem dX3_need_22 : decode cX3_need 22 = .ok (.lookupswitch 46 #[(0, 26), (1, 36)], 26) := by decide +kernel
theorem dX3_need_48 : decode cX3_need 48 = .ok (.aload_n 0, 1) := by decide +kernel
theorem dX3_need_49 : decode cX3_need 49 = .ok (.getfield 33, 3) := by decide +kernel
theorem dX3_need_52 : decode cX3_need 52 = .ok (.getfield 161, 3) := by decide +kernel
theorem dX3_need_55 : decode cX3_need 55 = .ok (.iload_n 1, 1) := by decide +kernel
theorem dX3_need_56 : decode cX3_need 56 = .ok (.iaload, 1) := by decide +kernel
theorem dX3_need_57 : decode cX3_need 57 = .ok (.ireturn, 1) := by decide +kernel
theorem dX3_need_58 : decode cX3_need 58 = .ok (.aload_n 0, 1) := by decide +kernel
theorem dX3_need_59 : decode cX3_need 59 = .ok (.getfield 33, 3) := by decide +kernel
theorem dX3_need_62 : decode cX3_need 62 = .ok (.getfield 164, 3) := by decide +kernel
theorem dX3_need_65 : decode cX3_need 65 = .ok (.iload_n 1, 1) := by decide +kernel
theorem dX3_need_66 : decode cX3_need 66 = .ok (.iaload, 1) := by decide +kernel
theorem dX3_need_67 : decode cX3_need 67 = .ok (.ireturn, 1) := by decide +kernel
theorem dX3_need_68 : decode cX3_need 68 = .ok (.iconst (-1), 1) := by decide +kernel
theorem dX3_need_69 : decode cX3_need 69 = .ok (.ireturn, 1) := by decide +kernel
theorem dX3_below_0 : decode cX3_below 0 = .ok (.aload_n 0, 1) := by decide +kernel
theorem dX3_below_1 : decode cX3_below 1 = .ok (.invokevirtual 156, 3) := by decide +kernel
theorem dX3_below_4 : decode cX3_below 4 = .ok (.aload_n 0, 1) := by decide +kernel
theorem dX3_below_5 : decode cX3_below 5 = .ok (.getfield 33, 3) := by decide +kernel
theorem dX3_below_8 : decode cX3_below 8 = .ok (.invokevirtual 167, 3) := by decide +kernel
theorem dX3_below_11 : decode cX3_below 11 = .ok (.ifCond .eq 13, 3) := by decide +kernel
theorem dX3_below_14 : decode cX3_below 14 = .ok (.aload_n 0, 1) := by decide +kernel
theorem dX3_below_15 : decode cX3_below 15 = .ok (.getfield 33, 3) := by decide +kernel
theorem dX3_below_18 : decode cX3_below 18 = .ok (.invokevirtual 171, 3) := by decide +kernel
theorem dX3_below_21 : decode cX3_below 21 = .ok (.goto 5, 3) := by decide +kernel
theorem dX3_below_24 : decode cX3_below 24 = .ok (.bipush (-5), 2) := by decide +kernel
theorem dX3_below_26 : decode cX3_below 26 = .ok (.ireturn, 1) := by decide +kernel
theorem dX3_order_0 : decode cX3_order 0 = .ok (.aload_n 0, 1) := by decide +kernel
theorem dX3_order_1 : decode cX3_order 1 = .ok (.invokevirtual 156, 3) := by decide +kernel
theorem dX3_order_4 : decode cX3_order 4 = .ok (.aload_n 0, 1) := by decide +kernel
theorem dX3_order_5 : decode cX3_order 5 = .ok (.getfield 33, 3) := by decide +kernel
theorem dX3_order_8 : decode cX3_order 8 = .ok (.invokevirtual 167, 3) := by decide +kernel
theorem dX3_order_11 : decode cX3_order 11 = .ok (.ifCond .eq 14, 3) := by decide +kernel
theorem dX3_order_14 : decode cX3_order 14 = .ok (.aload_n 0, 1) := by decide +kernel
theorem dX3_order_15 : decode cX3_order 15 = .ok (.getfield 33, 3) := by decide +kernel
theorem dX3_order_18 : decode cX3_order 18 = .ok (.iload_n 1, 1) := by decide +kernel
theorem dX3_order_19 : decode cX3_order 19 = .ok (.invokevirtual 174, 3) := by decide +kernel
theorem dX3_order_22 : decode cX3_order 22 = .ok (.goto 4, 3) := by decide +kernel
theorem dX3_order_25 : decode cX3_order 25 = .ok (.iconst (-1), 1) := by decide +kernel
theorem dX3_order_26 : decode cX3_order 26 = .ok (.ireturn, 1) := by decide +kernel
theorem dX3_above_0 : decode cX3_above 0 = .ok (.aload_n 0, 1) := by decide +kernel
theorem dX3_above_1 : decode cX3_above 1 = .ok (.invokevirtual 156, 3) := by decide +kernel
theorem dX3_above_4 : decode cX3_above 4 = .ok (.aload_n 0, 1) := by decide +kernel
theorem dX3_above_5 : decode cX3_above 5 = .ok (.getfield 33, 3) := by decide +kernel
theorem dX3_above_8 : decode cX3_above 8 = .ok (.invokevirtual 167, 3) := by decide +kernel
theorem dX3_above_11 : decode cX3_above 11 = .ok (.ifCond .eq 13, 3) := by decide +kernel
theorem dX3_above_14 : decode cX3_above 14 = .ok (.aload_n 0, 1) := by decide +kernel
theorem dX3_above_15 : decode cX3_above 15 = .ok (.getfield 33, 3) := by decide +kernel
theorem dX3_above_18 : decode cX3_above 18 = .ok (.invokevirtual 177, 3) := by decide +kernel
theorem dX3_above_21 : decode cX3_above 21 = .ok (.goto 5, 3) := by decide +kernel
theorem dX3_above_24 : decode cX3_above 24 = .ok (.bipush (-5), 2) := by decide +kernel
theorem dX3_above_26 : decode cX3_above 26 = .ok (.ireturn, 1) := by decide +kernel
theorem dX3_group_0 : decode cX3_group 0 = .ok (.aload_n 0, 1) := by decide +kernel
theorem dX3_group_1 : decode cX3_group 1 = .ok (.invokevirtual 156, 3) := by decide +kernel
theorem dX3_group_4 : decode cX3_group 4 = .ok (.aload_n 0, 1) := by decide +kernel
theorem dX3_group_5 : decode cX3_group 5 = .ok (.getfield 33, 3) := by decide +kernel
theorem dX3_group_8 : decode cX3_group 8 = .ok (.invokevirtual 167, 3) := by decide +kernel
theorem dX3_group_11 : decode cX3_group 11 = .ok (.ifCond .eq 14, 3) := by decide +kernel
theorem dX3_group_14 : decode cX3_group 14 = .ok (.aload_n 0, 1) := by decide +kernel
theorem dX3_group_15 : decode cX3_group 15 = .ok (.getfield 33, 3) := by decide +kernel
theorem dX3_group_18 : decode cX3_group 18 = .ok (.iload_n 1, 1) := by decide +kernel
theorem dX3_group_19 : decode cX3_group 19 = .ok (.invokevirtual 180, 3) := by decide +kernel
theorem dX3_group_22 : decode cX3_group 22 = .ok (.goto 4, 3) := by decide +kernel
theorem dX3_group_25 : decode cX3_group 25 = .ok (.iconst (-1), 1) := by decide +kernel
theorem dX3_group_26 : decode cX3_group 26 = .ok (.ireturn, 1) := by decide +kernel
theorem dX3_least_0 : decode cX3_least 0 = .ok (.aload_n 0, 1) := by decide +kernel
theorem dX3_least_1 : decode cX3_least 1 = .ok (.getfield 51, 3) := by decide +kernel
theorem dX3_least_4 : decode cX3_least 4 = .ok (.iconst 5, 1) := by decide +kernel
theorem dX3_least_5 : decode cX3_least 5 = .ok (.if_icmp .le 8, 3) := by decide +kernel
theorem dX3_least_8 : decode cX3_least 8 = .ok (.bipush (-5), 2) := by decide +kernel
theorem dX3_least_10 : decode cX3_least 10 = .ok (.goto 7, 3) := by decide +kernel
theorem dX3_least_13 : decode cX3_least 13 = .ok (.aload_n 0, 1) := by decide +kernel
theorem dX3_least_14 : decode cX3_least 14 = .ok (.invokevirtual 183, 3) := by decide +kernel
theorem dX3_least_17 : decode cX3_least 17 = .ok (.ireturn, 1) := by decide +kernel
theorem dX3_planned_0 : decode cX3_planned 0 = .ok (.aload_n 0, 1) := by decide +kernel
theorem dX3_planned_1 : decode cX3_planned 1 = .ok (.getfield 51, 3) := by decide +kernel
theorem dX3_planned_4 : decode cX3_planned 4 = .ok (.iconst 5, 1) := by decide +kernel
theorem dX3_planned_5 : decode cX3_planned 5 = .ok (.if_icmp .le 5, 3) := by decide +kernel
theorem dX3_planned_8 : decode cX3_planned 8 = .ok (.iconst (-1), 1) := by decide +kernel
theorem dX3_planned_9 : decode cX3_planned 9 = .ok (.ireturn, 1) := by decide +kernel
theorem dX3_planned_10 : decode cX3_planned 10 = .ok (.aload_n 0, 1) := by decide +kernel
theorem dX3_planned_11 : decode cX3_planned 11 = .ok (.invokevirtual 183, 3) := by decide +kernel
theorem dX3_planned_14 : decode cX3_planned 14 = .ok (.istore_n 2, 1) := by decide +kernel
theorem dX3_planned_15 : decode cX3_planned 15 = .ok (.iload_n 1, 1) := by decide +kernel
theorem dX3_planned_16 : decode cX3_planned 16 = .ok (.ifCond .lt 17, 3) := by decide +kernel
theorem dX3_planned_19 : decode cX3_planned 19 = .ok (.iload_n 1, 1) := by decide +kernel
theorem dX3_planned_20 : decode cX3_planned 20 = .ok (.iload_n 2, 1) := by decide +kernel
theorem dX3_planned_21 : decode cX3_planned 21 = .ok (.if_icmp .ge 12, 3) := by decide +kernel
theorem dX3_planned_24 : decode cX3_planned 24 = .ok (.aload_n 0, 1) := by decide +kernel
theorem dX3_planned_25 : decode cX3_planned 25 = .ok (.getfield 44, 3) := by decide +kernel
theorem dX3_planned_28 : decode cX3_planned 28 = .ok (.iload_n 1, 1) := by decide +kernel
theorem dX3_planned_29 : decode cX3_planned 29 = .ok (.iaload, 1) := by decide +kernel
theorem dX3_planned_30 : decode cX3_planned 30 = .ok (.goto 4, 3) := by decide +kernel
theorem dX3_planned_33 : decode cX3_planned 33 = .ok (.iconst (-1), 1) := by decide +kernel
theorem dX3_planned_34 : decode cX3_planned 34 = .ok (.ireturn, 1) := by decide +kernel
theorem dX3_plan_0 : decode cX3_plan 0 = .ok (.aload_n 0, 1) := by decide +kernel
theorem dX3_plan_1 : decode cX3_plan 1 = .ok (.getfield 44, 3) := by decide +kernel
theorem dX3_plan_4 : decode cX3_plan 4 = .ok (.iconst 0, 1) := by decide +kernel
theorem dX3_plan_5 : decode cX3_plan 5 = .ok (.iload_n 1, 1) := by decide +kernel
theorem dX3_plan_6 : decode cX3_plan 6 = .ok (.iastore, 1) := by decide +kernel
theorem dX3_plan_7 : decode cX3_plan 7 = .ok (.aload_n 0, 1) := by decide +kernel
theorem dX3_plan_8 : decode cX3_plan 8 = .ok (.getfield 44, 3) := by decide +kernel
theorem dX3_plan_11 : decode cX3_plan 11 = .ok (.iconst 1, 1) := by decide +kernel
theorem dX3_plan_12 : decode cX3_plan 12 = .ok (.iload_n 2, 1) := by decide +kernel
theorem dX3_plan_13 : decode cX3_plan 13 = .ok (.iastore, 1) := by decide +kernel
theorem dX3_plan_14 : decode cX3_plan 14 = .ok (.aload_n 0, 1) := by decide +kernel
theorem dX3_plan_15 : decode cX3_plan 15 = .ok (.getfield 44, 3) := by decide +kernel
theorem dX3_plan_18 : decode cX3_plan 18 = .ok (.iconst 2, 1) := by decide +kernel
theorem dX3_plan_19 : decode cX3_plan 19 = .ok (.iload_n 3, 1) := by decide +kernel
theorem dX3_plan_20 : decode cX3_plan 20 = .ok (.iastore, 1) := by decide +kernel
theorem dX3_plan_21 : decode cX3_plan 21 = .ok (.aload_n 0, 1) := by decide +kernel
theorem dX3_plan_22 : decode cX3_plan 22 = .ok (.getfield 44, 3) := by decide +kernel
theorem dX3_plan_25 : decode cX3_plan 25 = .ok (.iconst 3, 1) := by decide +kernel
theorem dX3_plan_26 : decode cX3_plan 26 = .ok (.iload 4, 2) := by decide +kernel
theorem dX3_plan_28 : decode cX3_plan 28 = .ok (.iastore, 1) := by decide +kernel
theorem dX3_plan_29 : decode cX3_plan 29 = .ok (.iconst 0, 1) := by decide +kernel
theorem dX3_plan_30 : decode cX3_plan 30 = .ok (.istore 5, 2) := by decide +kernel
theorem dX3_plan_32 : decode cX3_plan 32 = .ok (.iconst 0, 1) := by decide +kernel
theorem dX3_plan_33 : decode cX3_plan 33 = .ok (.istore 6, 2) := by decide +kernel
theorem dX3_plan_35 : decode cX3_plan 35 = .ok (.iload 6, 2) := by decide +kernel
theorem dX3_plan_37 : decode cX3_plan 37 = .ok (.iconst 4, 1) := by decide +kernel
theorem dX3_plan_38 : decode cX3_plan 38 = .ok (.if_icmp .ge 46, 3) := by decide +kernel
theorem dX3_plan_41 : decode cX3_plan 41 = .ok (.aload_n 0, 1) := by decide +kernel
theorem dX3_plan_42 : decode cX3_plan 42 = .ok (.getfield 44, 3) := by decide +kernel
theorem dX3_plan_45 : decode cX3_plan 45 = .ok (.iload 6, 2) := by decide +kernel
theorem dX3_plan_47 : decode cX3_plan 47 = .ok (.iaload, 1) := by decide +kernel
theorem dX3_plan_48 : decode cX3_plan 48 = .ok (.ifCond .eq 30, 3) := by decide +kernel
theorem dX3_plan_51 : decode cX3_plan 51 = .ok (.iload 5, 2) := by decide +kernel
theorem dX3_plan_53 : decode cX3_plan 53 = .ok (.iload 6, 2) := by decide +kernel
theorem dX3_plan_55 : decode cX3_plan 55 = .ok (.if_icmp .lt 17, 3) := by decide +kernel
theorem dX3_plan_58 : decode cX3_plan 58 = .ok (.aload_n 0, 1) := by decide +kernel
theorem dX3_plan_59 : decode cX3_plan 59 = .ok (.aload_n 0, 1) := by decide +kernel
theorem dX3_plan_60 : decode cX3_plan 60 = .ok (.getfield 44, 3) := by decide +kernel
theorem dX3_plan_63 : decode cX3_plan 63 = .ok (.iload 6, 2) := by decide +kernel
theorem dX3_plan_65 : decode cX3_plan 65 = .ok (.iaload, 1) := by decide +kernel
theorem dX3_plan_66 : decode cX3_plan 66 = .ok (.invokevirtual 88, 3) := by decide +kernel
theorem dX3_plan_69 : decode cX3_plan 69 = .ok (.ifCond .ne 6, 3) := by decide +kernel
theorem dX3_plan_72 : decode cX3_plan 72 = .ok (.bipush (-2), 2) := by decide +kernel
theorem dX3_plan_74 : decode cX3_plan 74 = .ok (.ireturn, 1) := by decide +kernel
theorem dX3_plan_75 : decode cX3_plan 75 = .ok (.iinc 5 1, 3) := by decide +kernel
theorem dX3_plan_78 : decode cX3_plan 78 = .ok (.iinc 6 1, 3) := by decide +kernel
theorem dX3_plan_81 : decode cX3_plan 81 = .ok (.goto (-46), 3) := by decide +kernel
theorem dX3_plan_84 : decode cX3_plan 84 = .ok (.aload_n 0, 1) := by decide +kernel
theorem dX3_plan_85 : decode cX3_plan 85 = .ok (.iload 5, 2) := by decide +kernel
theorem dX3_plan_87 : decode cX3_plan 87 = .ok (.invokevirtual 186, 3) := by decide +kernel
theorem dX3_plan_90 : decode cX3_plan 90 = .ok (.invokestatic 104, 3) := by decide +kernel
theorem dX3_plan_93 : decode cX3_plan 93 = .ok (.ireturn, 1) := by decide +kernel
theorem dX3_goOn_0 : decode cX3_goOn 0 = .ok (.aload_n 0, 1) := by decide +kernel
theorem dX3_goOn_1 : decode cX3_goOn 1 = .ok (.getfield 47, 3) := by decide +kernel
theorem dX3_goOn_4 : decode cX3_goOn 4 = .ok (.bipush 40, 2) := by decide +kernel
theorem dX3_goOn_6 : decode cX3_goOn 6 = .ok (.if_icmp .lt 6, 3) := by decide +kernel
theorem dX3_goOn_9 : decode cX3_goOn 9 = .ok (.bipush (-4), 2) := by decide +kernel
theorem dX3_goOn_11 : decode cX3_goOn 11 = .ok (.ireturn, 1) := by decide +kernel
theorem dX3_goOn_12 : decode cX3_goOn 12 = .ok (.aload_n 0, 1) := by decide +kernel
theorem dX3_goOn_13 : decode cX3_goOn 13 = .ok (.invokevirtual 189, 3) := by decide +kernel
theorem dX3_goOn_16 : decode cX3_goOn 16 = .ok (.istore_n 1, 1) := by decide +kernel
theorem dX3_goOn_17 : decode cX3_goOn 17 = .ok (.iload_n 1, 1) := by decide +kernel
theorem dX3_goOn_18 : decode cX3_goOn 18 = .ok (.ifCond .eq 9, 3) := by decide +kernel
theorem dX3_goOn_21 : decode cX3_goOn 21 = .ok (.aload_n 0, 1) := by decide +kernel
theorem dX3_goOn_22 : decode cX3_goOn 22 = .ok (.iload_n 1, 1) := by decide +kernel
theorem dX3_goOn_23 : decode cX3_goOn 23 = .ok (.invokevirtual 108, 3) := by decide +kernel
theorem dX3_goOn_26 : decode cX3_goOn 26 = .ok (.pop, 1) := by decide +kernel
theorem dX3_goOn_27 : decode cX3_goOn 27 = .ok (.iload_n 1, 1) := by decide +kernel
theorem dX3_goOn_28 : decode cX3_goOn 28 = .ok (.ireturn, 1) := by decide +kernel
theorem dX3_finish_0 : decode cX3_finish 0 = .ok (.iconst 0, 1) := by decide +kernel
theorem dX3_finish_1 : decode cX3_finish 1 = .ok (.istore_n 1, 1) := by decide +kernel
theorem dX3_finish_2 : decode cX3_finish 2 = .ok (.iload_n 1, 1) := by decide +kernel
theorem dX3_finish_3 : decode cX3_finish 3 = .ok (.bipush 40, 2) := by decide +kernel
theorem dX3_finish_5 : decode cX3_finish 5 = .ok (.if_icmp .ge 16, 3) := by decide +kernel
theorem dX3_finish_8 : decode cX3_finish 8 = .ok (.aload_n 0, 1) := by decide +kernel
theorem dX3_finish_9 : decode cX3_finish 9 = .ok (.invokevirtual 192, 3) := by decide +kernel
theorem dX3_finish_12 : decode cX3_finish 12 = .ok (.ifCond .le 9, 3) := by decide +kernel
theorem dX3_finish_15 : decode cX3_finish 15 = .ok (.iinc 1 1, 3) := by decide +kernel
theorem dX3_finish_18 : decode cX3_finish 18 = .ok (.goto (-16), 3) := by decide +kernel
theorem dX3_finish_21 : decode cX3_finish 21 = .ok (.iload_n 1, 1) := by decide +kernel
theorem dX3_finish_22 : decode cX3_finish 22 = .ok (.ireturn, 1) := by decide +kernel
theorem dX3_count_0 : decode cX3_count 0 = .ok (.iload_n 1, 1) := by decide +kernel
theorem dX3_count_1 : decode cX3_count 1 = .ok (.tableswitch 63 0 4 #[35, 40, 48, 53, 58], 35) := by decide +kernel
theorem dX3_count_36 : decode cX3_count 36 = .ok (.aload_n 0, 1) := by decide +kernel
theorem dX3_count_37 : decode cX3_count 37 = .ok (.getfield 51, 3) := by decide +kernel
theorem dX3_count_40 : decode cX3_count 40 = .ok (.ireturn, 1) := by decide +kernel
theorem dX3_count_41 : decode cX3_count 41 = .ok (.aload_n 0, 1) := by decide +kernel
theorem dX3_count_42 : decode cX3_count 42 = .ok (.getfield 16, 3) := by decide +kernel
theorem dX3_count_45 : decode cX3_count 45 = .ok (.invokevirtual 58, 3) := by decide +kernel
theorem dX3_count_48 : decode cX3_count 48 = .ok (.ireturn, 1) := by decide +kernel
theorem dX3_count_49 : decode cX3_count 49 = .ok (.aload_n 0, 1) := by decide +kernel
theorem dX3_count_50 : decode cX3_count 50 = .ok (.getfield 47, 3) := by decide +kernel
theorem dX3_count_53 : decode cX3_count 53 = .ok (.ireturn, 1) := by decide +kernel
theorem dX3_count_54 : decode cX3_count 54 = .ok (.aload_n 0, 1) := by decide +kernel
theorem dX3_count_55 : decode cX3_count 55 = .ok (.invokevirtual 153, 3) := by decide +kernel
theorem dX3_count_58 : decode cX3_count 58 = .ok (.ireturn, 1) := by decide +kernel
theorem dX3_count_59 : decode cX3_count 59 = .ok (.aload_n 0, 1) := by decide +kernel
theorem dX3_count_60 : decode cX3_count 60 = .ok (.invokevirtual 195, 3) := by decide +kernel
theorem dX3_count_63 : decode cX3_count 63 = .ok (.ireturn, 1) := by decide +kernel
theorem dX3_count_64 : decode cX3_count 64 = .ok (.iconst (-1), 1) := by decide +kernel
theorem dX3_count_65 : decode cX3_count 65 = .ok (.ireturn, 1) := by decide +kernel
theorem dX3_isPiece_0 : decode cX3_isPiece 0 = .ok (.iload_n 1, 1) := by decide +kernel
theorem dX3_isPiece_1 : decode cX3_isPiece 1 = .ok (.ifCond .lt 15, 3) := by decide +kernel
theorem dX3_isPiece_4 : decode cX3_isPiece 4 = .ok (.iload_n 1, 1) := by decide +kernel
theorem dX3_isPiece_5 : decode cX3_isPiece 5 = .ok (.aload_n 0, 1) := by decide +kernel
theorem dX3_isPiece_6 : decode cX3_isPiece 6 = .ok (.getfield 51, 3) := by decide +kernel
theorem dX3_isPiece_9 : decode cX3_isPiece 9 = .ok (.if_icmp .ge 7, 3) := by decide +kernel
theorem dX3_isPiece_12 : decode cX3_isPiece 12 = .ok (.iconst 1, 1) := by decide +kernel
theorem dX3_isPiece_13 : decode cX3_isPiece 13 = .ok (.goto 4, 3) := by decide +kernel
theorem dX3_isPiece_16 : decode cX3_isPiece 16 = .ok (.iconst 0, 1) := by decide +kernel
theorem dX3_isPiece_17 : decode cX3_isPiece 17 = .ok (.ireturn, 1) := by decide +kernel
theorem dX3_isListener_0 : decode cX3_isListener 0 = .ok (.iload_n 1, 1) := by decide +kernel
theorem dX3_isListener_1 : decode cX3_isListener 1 = .ok (.ifCond .lt 18, 3) := by decide +kernel
theorem dX3_isListener_4 : decode cX3_isListener 4 = .ok (.iload_n 1, 1) := by decide +kernel
theorem dX3_isListener_5 : decode cX3_isListener 5 = .ok (.aload_n 0, 1) := by decide +kernel
theorem dX3_isListener_6 : decode cX3_isListener 6 = .ok (.getfield 16, 3) := by decide +kernel
theorem dX3_isListener_9 : decode cX3_isListener 9 = .ok (.invokevirtual 58, 3) := by decide +kernel
theorem dX3_isListener_12 : decode cX3_isListener 12 = .ok (.if_icmp .ge 7, 3) := by decide +kernel
theorem dX3_isListener_15 : decode cX3_isListener 15 = .ok (.iconst 1, 1) := by decide +kernel
theorem dX3_isListener_16 : decode cX3_isListener 16 = .ok (.goto 4, 3) := by decide +kernel
theorem dX3_isListener_19 : decode cX3_isListener 19 = .ok (.iconst 0, 1) := by decide +kernel
theorem dX3_isListener_20 : decode cX3_isListener 20 = .ok (.ireturn, 1) := by decide +kernel
theorem dX3_isCall_0 : decode cX3_isCall 0 = .ok (.iload_n 1, 1) := by decide +kernel
theorem dX3_isCall_1 : decode cX3_isCall 1 = .ok (.ifCond .lt 15, 3) := by decide +kernel
theorem dX3_isCall_4 : decode cX3_isCall 4 = .ok (.iload_n 1, 1) := by decide +kernel
theorem dX3_isCall_5 : decode cX3_isCall 5 = .ok (.aload_n 0, 1) := by decide +kernel
theorem dX3_isCall_6 : decode cX3_isCall 6 = .ok (.getfield 47, 3) := by decide +kernel
theorem dX3_isCall_9 : decode cX3_isCall 9 = .ok (.if_icmp .ge 7, 3) := by decide +kernel
theorem dX3_isCall_12 : decode cX3_isCall 12 = .ok (.iconst 1, 1) := by decide +kernel
theorem dX3_isCall_13 : decode cX3_isCall 13 = .ok (.goto 4, 3) := by decide +kernel
theorem dX3_isCall_16 : decode cX3_isCall 16 = .ok (.iconst 0, 1) := by decide +kernel
theorem dX3_isCall_17 : decode cX3_isCall 17 = .ok (.ireturn, 1) := by decide +kernel
theorem dX3_isMask_0 : decode cX3_isMask 0 = .ok (.iload_n 1, 1) := by decide +kernel
theorem dX3_isMask_1 : decode cX3_isMask 1 = .ok (.ifCond .eq 18, 3) := by decide +kernel
theorem dX3_isMask_4 : decode cX3_isMask 4 = .ok (.iload_n 1, 1) := by decide +kernel
theorem dX3_isMask_5 : decode cX3_isMask 5 = .ok (.aload_n 0, 1) := by decide +kernel
theorem dX3_isMask_6 : decode cX3_isMask 6 = .ok (.invokevirtual 147, 3) := by decide +kernel
theorem dX3_isMask_9 : decode cX3_isMask 9 = .ok (.iconst (-1), 1) := by decide +kernel
theorem dX3_isMask_10 : decode cX3_isMask 10 = .ok (.ixor, 1) := by decide +kernel
theorem dX3_isMask_11 : decode cX3_isMask 11 = .ok (.iand, 1) := by decide +kernel
theorem dX3_isMask_12 : decode cX3_isMask 12 = .ok (.ifCond .ne 7, 3) := by decide +kernel
theorem dX3_isMask_15 : decode cX3_isMask 15 = .ok (.iconst 1, 1) := by decide +kernel
theorem dX3_isMask_16 : decode cX3_isMask 16 = .ok (.goto 4, 3) := by decide +kernel
theorem dX3_isMask_19 : decode cX3_isMask 19 = .ok (.iconst 0, 1) := by decide +kernel
theorem dX3_isMask_20 : decode cX3_isMask 20 = .ok (.ireturn, 1) := by decide +kernel
theorem dX3_allPieces_0 : decode cX3_allPieces 0 = .ok (.iconst 1, 1) := by decide +kernel
theorem dX3_allPieces_1 : decode cX3_allPieces 1 = .ok (.aload_n 0, 1) := by decide +kernel
theorem dX3_allPieces_2 : decode cX3_allPieces 2 = .ok (.getfield 51, 3) := by decide +kernel
theorem dX3_allPieces_5 : decode cX3_allPieces 5 = .ok (.ishl, 1) := by decide +kernel
theorem dX3_allPieces_6 : decode cX3_allPieces 6 = .ok (.iconst 1, 1) := by decide +kernel
theorem dX3_allPieces_7 : decode cX3_allPieces 7 = .ok (.isub, 1) := by decide +kernel
theorem dX3_allPieces_8 : decode cX3_allPieces 8 = .ok (.ireturn, 1) := by decide +kernel
theorem dX3_isIn_0 : decode cX3_isIn 0 = .ok (.iload_n 1, 1) := by decide +kernel
theorem dX3_isIn_1 : decode cX3_isIn 1 = .ok (.iload_n 0, 1) := by decide +kernel
theorem dX3_isIn_2 : decode cX3_isIn 2 = .ok (.ishr, 1) := by decide +kernel
theorem dX3_isIn_3 : decode cX3_isIn 3 = .ok (.iconst 1, 1) := by decide +kernel
theorem dX3_isIn_4 : decode cX3_isIn 4 = .ok (.iand, 1) := by decide +kernel
theorem dX3_isIn_5 : decode cX3_isIn 5 = .ok (.ifCond .eq 7, 3) := by decide +kernel
theorem dX3_isIn_8 : decode cX3_isIn 8 = .ok (.iconst 1, 1) := by decide +kernel
theorem dX3_isIn_9 : decode cX3_isIn 9 = .ok (.goto 4, 3) := by decide +kernel
theorem dX3_isIn_12 : decode cX3_isIn 12 = .ok (.iconst 0, 1) := by decide +kernel
theorem dX3_isIn_13 : decode cX3_isIn 13 = .ok (.ireturn, 1) := by decide +kernel
theorem dX3_oneIf_0 : decode cX3_oneIf 0 = .ok (.iload_n 0, 1) := by decide +kernel
theorem dX3_oneIf_1 : decode cX3_oneIf 1 = .ok (.ifCond .eq 7, 3) := by decide +kernel
theorem dX3_oneIf_4 : decode cX3_oneIf 4 = .ok (.iconst 1, 1) := by decide +kernel
theorem dX3_oneIf_5 : decode cX3_oneIf 5 = .ok (.goto 4, 3) := by decide +kernel
theorem dX3_oneIf_8 : decode cX3_oneIf 8 = .ok (.iconst 0, 1) := by decide +kernel
theorem dX3_oneIf_9 : decode cX3_oneIf 9 = .ok (.ireturn, 1) := by decide +kernel
theorem dX3_bytesOf_0 : decode cX3_bytesOf 0 = .ok (.lconst 0, 1) := by decide +kernel
theorem dX3_bytesOf_1 : decode cX3_bytesOf 1 = .ok (.lstore_n 2, 1) := by decide +kernel
theorem dX3_bytesOf_2 : decode cX3_bytesOf 2 = .ok (.iconst 0, 1) := by decide +kernel
theorem dX3_bytesOf_3 : decode cX3_bytesOf 3 = .ok (.istore 4, 2) := by decide +kernel
theorem dX3_bytesOf_5 : decode cX3_bytesOf 5 = .ok (.iload 4, 2) := by decide +kernel
theorem dX3_bytesOf_7 : decode cX3_bytesOf 7 = .ok (.aload_n 0, 1) := by decide +kernel
theorem dX3_bytesOf_8 : decode cX3_bytesOf 8 = .ok (.getfield 51, 3) := by decide +kernel
theorem dX3_bytesOf_11 : decode cX3_bytesOf 11 = .ok (.if_icmp .ge 28, 3) := by decide +kernel
theorem dX3_bytesOf_14 : decode cX3_bytesOf 14 = .ok (.iload 4, 2) := by decide +kernel
theorem dX3_bytesOf_16 : decode cX3_bytesOf 16 = .ok (.iload_n 1, 1) := by decide +kernel
theorem dX3_bytesOf_17 : decode cX3_bytesOf 17 = .ok (.invokestatic 84, 3) := by decide +kernel
theorem dX3_bytesOf_20 : decode cX3_bytesOf 20 = .ok (.ifCond .eq 13, 3) := by decide +kernel
theorem dX3_bytesOf_23 : decode cX3_bytesOf 23 = .ok (.lload_n 2, 1) := by decide +kernel
theorem dX3_bytesOf_24 : decode cX3_bytesOf 24 = .ok (.aload_n 0, 1) := by decide +kernel
theorem dX3_bytesOf_25 : decode cX3_bytesOf 25 = .ok (.getfield 9, 3) := by decide +kernel
theorem dX3_bytesOf_28 : decode cX3_bytesOf 28 = .ok (.iload 4, 2) := by decide +kernel
theorem dX3_bytesOf_30 : decode cX3_bytesOf 30 = .ok (.laload, 1) := by decide +kernel
theorem dX3_bytesOf_31 : decode cX3_bytesOf 31 = .ok (.lxor, 1) := by decide +kernel
theorem dX3_bytesOf_32 : decode cX3_bytesOf 32 = .ok (.lstore_n 2, 1) := by decide +kernel
theorem dX3_bytesOf_33 : decode cX3_bytesOf 33 = .ok (.iinc 4 1, 3) := by decide +kernel
theorem dX3_bytesOf_36 : decode cX3_bytesOf 36 = .ok (.goto (-31), 3) := by decide +kernel
theorem dX3_bytesOf_39 : decode cX3_bytesOf 39 = .ok (.lload_n 2, 1) := by decide +kernel
theorem dX3_bytesOf_40 : decode cX3_bytesOf 40 = .ok (.lreturn, 1) := by decide +kernel
theorem dX3_speak_0 : decode cX3_speak 0 = .ok (.aload_n 0, 1) := by decide +kernel
theorem dX3_speak_1 : decode cX3_speak 1 = .ok (.getfield 47, 3) := by decide +kernel
theorem dX3_speak_4 : decode cX3_speak 4 = .ok (.bipush 40, 2) := by decide +kernel
theorem dX3_speak_6 : decode cX3_speak 6 = .ok (.if_icmp .lt 6, 3) := by decide +kernel
theorem dX3_speak_9 : decode cX3_speak 9 = .ok (.bipush (-4), 2) := by decide +kernel
theorem dX3_speak_11 : decode cX3_speak 11 = .ok (.ireturn, 1) := by decide +kernel
theorem dX3_speak_12 : decode cX3_speak 12 = .ok (.aload_n 0, 1) := by decide +kernel
theorem dX3_speak_13 : decode cX3_speak 13 = .ok (.getfield 47, 3) := by decide +kernel
theorem dX3_speak_16 : decode cX3_speak 16 = .ok (.istore_n 2, 1) := by decide +kernel
theorem dX3_speak_17 : decode cX3_speak 17 = .ok (.aload_n 0, 1) := by decide +kernel
theorem dX3_speak_18 : decode cX3_speak 18 = .ok (.getfield 20, 3) := by decide +kernel
theorem dX3_speak_21 : decode cX3_speak 21 = .ok (.iload_n 2, 1) := by decide +kernel
theorem dX3_speak_22 : decode cX3_speak 22 = .ok (.iload_n 1, 1) := by decide +kernel
theorem dX3_speak_23 : decode cX3_speak 23 = .ok (.iastore, 1) := by decide +kernel
theorem dX3_speak_24 : decode cX3_speak 24 = .ok (.iconst 0, 1) := by decide +kernel
theorem dX3_speak_25 : decode cX3_speak 25 = .ok (.istore_n 3, 1) := by decide +kernel
theorem dX3_speak_26 : decode cX3_speak 26 = .ok (.iload_n 3, 1) := by decide +kernel
theorem dX3_speak_27 : decode cX3_speak 27 = .ok (.aload_n 0, 1) := by decide +kernel
theorem dX3_speak_28 : decode cX3_speak 28 = .ok (.getfield 16, 3) := by decide +kernel
theorem dX3_speak_31 : decode cX3_speak 31 = .ok (.invokevirtual 58, 3) := by decide +kernel
theorem dX3_speak_34 : decode cX3_speak 34 = .ok (.if_icmp .ge 59, 3) := by decide +kernel
theorem dX3_speak_37 : decode cX3_speak 37 = .ok (.aload_n 0, 1) := by decide +kernel
theorem dX3_speak_38 : decode cX3_speak 38 = .ok (.getfield 16, 3) := by decide +kernel
theorem dX3_speak_41 : decode cX3_speak 41 = .ok (.iload_n 3, 1) := by decide +kernel
theorem dX3_speak_42 : decode cX3_speak 42 = .ok (.invokevirtual 74, 3) := by decide +kernel
theorem dX3_speak_45 : decode cX3_speak 45 = .ok (.checkcast 62, 3) := by decide +kernel
theorem dX3_speak_48 : decode cX3_speak 48 = .ok (.astore 4, 2) := by decide +kernel
theorem dX3_speak_50 : decode cX3_speak 50 = .ok (.aload 4, 2) := by decide +kernel
theorem dX3_speak_52 : decode cX3_speak 52 = .ok (.getfield 100, 3) := by decide +kernel
theorem dX3_speak_55 : decode cX3_speak 55 = .ok (.ifCond .ne 32, 3) := by decide +kernel
theorem dX3_speak_58 : decode cX3_speak 58 = .ok (.aload_n 0, 1) := by decide +kernel
theorem dX3_speak_59 : decode cX3_speak 59 = .ok (.getfield 24, 3) := by decide +kernel
theorem dX3_speak_62 : decode cX3_speak 62 = .ok (.iload_n 2, 1) := by decide +kernel
theorem dX3_speak_63 : decode cX3_speak 63 = .ok (.dup2, 1) := by decide +kernel
theorem dX3_speak_64 : decode cX3_speak 64 = .ok (.iaload, 1) := by decide +kernel
theorem dX3_speak_65 : decode cX3_speak 65 = .ok (.iconst 1, 1) := by decide +kernel
theorem dX3_speak_66 : decode cX3_speak 66 = .ok (.iadd, 1) := by decide +kernel
theorem dX3_speak_67 : decode cX3_speak 67 = .ok (.iastore, 1) := by decide +kernel
theorem dX3_speak_68 : decode cX3_speak 68 = .ok (.aload_n 0, 1) := by decide +kernel
theorem dX3_speak_69 : decode cX3_speak 69 = .ok (.getfield 27, 3) := by decide +kernel
theorem dX3_speak_72 : decode cX3_speak 72 = .ok (.iload_n 2, 1) := by decide +kernel
theorem dX3_speak_73 : decode cX3_speak 73 = .ok (.dup2, 1) := by decide +kernel
theorem dX3_speak_74 : decode cX3_speak 74 = .ok (.iaload, 1) := by decide +kernel
theorem dX3_speak_75 : decode cX3_speak 75 = .ok (.aload 4, 2) := by decide +kernel
theorem dX3_speak_77 : decode cX3_speak 77 = .ok (.iload_n 1, 1) := by decide +kernel
theorem dX3_speak_78 : decode cX3_speak 78 = .ok (.iload_n 2, 1) := by decide +kernel
theorem dX3_speak_79 : decode cX3_speak 79 = .ok (.invokevirtual 198, 3) := by decide +kernel
theorem dX3_speak_82 : decode cX3_speak 82 = .ok (.invokestatic 104, 3) := by decide +kernel
theorem dX3_speak_85 : decode cX3_speak 85 = .ok (.iadd, 1) := by decide +kernel
theorem dX3_speak_86 : decode cX3_speak 86 = .ok (.iastore, 1) := by decide +kernel
theorem dX3_speak_87 : decode cX3_speak 87 = .ok (.iinc 3 1, 3) := by decide +kernel
theorem dX3_speak_90 : decode cX3_speak 90 = .ok (.goto (-64), 3) := by decide +kernel
theorem dX3_speak_93 : decode cX3_speak 93 = .ok (.aload_n 0, 1) := by decide +kernel
theorem dX3_speak_94 : decode cX3_speak 94 = .ok (.dup, 1) := by decide +kernel
theorem dX3_speak_95 : decode cX3_speak 95 = .ok (.getfield 47, 3) := by decide +kernel
theorem dX3_speak_98 : decode cX3_speak 98 = .ok (.iconst 1, 1) := by decide +kernel
theorem dX3_speak_99 : decode cX3_speak 99 = .ok (.iadd, 1) := by decide +kernel
theorem dX3_speak_100 : decode cX3_speak 100 = .ok (.putfield 47, 3) := by decide +kernel
theorem dX3_speak_103 : decode cX3_speak 103 = .ok (.iload_n 2, 1) := by decide +kernel
theorem dX3_speak_104 : decode cX3_speak 104 = .ok (.ireturn, 1) := by decide +kernel
theorem dX3_hasWorkedOut_0 : decode cX3_hasWorkedOut 0 = .ok (.aload_n 0, 1) := by decide +kernel
theorem dX3_hasWorkedOut_1 : decode cX3_hasWorkedOut 1 = .ok (.iload_n 1, 1) := by decide +kernel
theorem dX3_hasWorkedOut_2 : decode cX3_hasWorkedOut 2 = .ok (.invokevirtual 71, 3) := by decide +kernel
theorem dX3_hasWorkedOut_5 : decode cX3_hasWorkedOut 5 = .ok (.ifCond .eq 36, 3) := by decide +kernel
theorem dX3_hasWorkedOut_8 : decode cX3_hasWorkedOut 8 = .ok (.aload_n 0, 1) := by decide +kernel
theorem dX3_hasWorkedOut_9 : decode cX3_hasWorkedOut 9 = .ok (.iload_n 2, 1) := by decide +kernel
theorem dX3_hasWorkedOut_10 : decode cX3_hasWorkedOut 10 = .ok (.invokevirtual 54, 3) := by decide +kernel
theorem dX3_hasWorkedOut_13 : decode cX3_hasWorkedOut 13 = .ok (.ifCond .eq 28, 3) := by decide +kernel
theorem dX3_hasWorkedOut_16 : decode cX3_hasWorkedOut 16 = .ok (.aload_n 0, 1) := by decide +kernel
theorem dX3_hasWorkedOut_17 : decode cX3_hasWorkedOut 17 = .ok (.getfield 16, 3) := by decide +kernel
theorem dX3_hasWorkedOut_20 : decode cX3_hasWorkedOut 20 = .ok (.iload_n 1, 1) := by decide +kernel
theorem dX3_hasWorkedOut_21 : decode cX3_hasWorkedOut 21 = .ok (.invokevirtual 74, 3) := by decide +kernel
theorem dX3_hasWorkedOut_24 : decode cX3_hasWorkedOut 24 = .ok (.checkcast 62, 3) := by decide +kernel
theorem dX3_hasWorkedOut_27 : decode cX3_hasWorkedOut 27 = .ok (.getfield 126, 3) := by decide +kernel
theorem dX3_hasWorkedOut_30 : decode cX3_hasWorkedOut 30 = .ok (.iload_n 2, 1) := by decide +kernel
theorem dX3_hasWorkedOut_31 : decode cX3_hasWorkedOut 31 = .ok (.invokevirtual 201, 3) := by decide +kernel
theorem dX3_hasWorkedOut_34 : decode cX3_hasWorkedOut 34 = .ok (.ifCond .eq 7, 3) := by decide +kernel
theorem dX3_hasWorkedOut_37 : decode cX3_hasWorkedOut 37 = .ok (.iconst 1, 1) := by decide +kernel
theorem dX3_hasWorkedOut_38 : decode cX3_hasWorkedOut 38 = .ok (.goto 4, 3) := by decide +kernel
theorem dX3_hasWorkedOut_41 : decode cX3_hasWorkedOut 41 = .ok (.iconst 0, 1) := by decide +kernel
theorem dX3_hasWorkedOut_42 : decode cX3_hasWorkedOut 42 = .ok (.ireturn, 1) := by decide +kernel
theorem dX3_isServed_0 : decode cX3_isServed 0 = .ok (.aload_n 1, 1) := by decide +kernel
theorem dX3_isServed_1 : decode cX3_isServed 1 = .ok (.aload_n 1, 1) := by decide +kernel
theorem dX3_isServed_2 : decode cX3_isServed 2 = .ok (.getfield 126, 3) := by decide +kernel
theorem dX3_isServed_5 : decode cX3_isServed 5 = .ok (.aload_n 0, 1) := by decide +kernel
theorem dX3_isServed_6 : decode cX3_isServed 6 = .ok (.invokevirtual 147, 3) := by decide +kernel
theorem dX3_isServed_9 : decode cX3_isServed 9 = .ok (.invokevirtual 204, 3) := by decide +kernel
theorem dX3_isServed_12 : decode cX3_isServed 12 = .ok (.ireturn, 1) := by decide +kernel
theorem dX3_servedCount_0 : decode cX3_servedCount 0 = .ok (.iconst 0, 1) := by decide +kernel
theorem dX3_servedCount_1 : decode cX3_servedCount 1 = .ok (.istore_n 1, 1) := by decide +kernel
theorem dX3_servedCount_2 : decode cX3_servedCount 2 = .ok (.iconst 0, 1) := by decide +kernel
theorem dX3_servedCount_3 : decode cX3_servedCount 3 = .ok (.istore_n 2, 1) := by decide +kernel
theorem dX3_servedCount_4 : decode cX3_servedCount 4 = .ok (.iload_n 2, 1) := by decide +kernel
theorem dX3_servedCount_5 : decode cX3_servedCount 5 = .ok (.aload_n 0, 1) := by decide +kernel
theorem dX3_servedCount_6 : decode cX3_servedCount 6 = .ok (.getfield 16, 3) := by decide +kernel
theorem dX3_servedCount_9 : decode cX3_servedCount 9 = .ok (.invokevirtual 58, 3) := by decide +kernel
theorem dX3_servedCount_12 : decode cX3_servedCount 12 = .ok (.if_icmp .ge 30, 3) := by decide +kernel
theorem dX3_servedCount_15 : decode cX3_servedCount 15 = .ok (.iload_n 1, 1) := by decide +kernel
theorem dX3_servedCount_16 : decode cX3_servedCount 16 = .ok (.aload_n 0, 1) := by decide +kernel
theorem dX3_servedCount_17 : decode cX3_servedCount 17 = .ok (.aload_n 0, 1) := by decide +kernel
theorem dX3_servedCount_18 : decode cX3_servedCount 18 = .ok (.getfield 16, 3) := by decide +kernel
theorem dX3_servedCount_21 : decode cX3_servedCount 21 = .ok (.iload_n 2, 1) := by decide +kernel
theorem dX3_servedCount_22 : decode cX3_servedCount 22 = .ok (.invokevirtual 74, 3) := by decide +kernel
theorem dX3_servedCount_25 : decode cX3_servedCount 25 = .ok (.checkcast 62, 3) := by decide +kernel
theorem dX3_servedCount_28 : decode cX3_servedCount 28 = .ok (.invokevirtual 132, 3) := by decide +kernel
theorem dX3_servedCount_31 : decode cX3_servedCount 31 = .ok (.invokestatic 104, 3) := by decide +kernel
theorem dX3_servedCount_34 : decode cX3_servedCount 34 = .ok (.iadd, 1) := by decide +kernel
theorem dX3_servedCount_35 : decode cX3_servedCount 35 = .ok (.istore_n 1, 1) := by decide +kernel
theorem dX3_servedCount_36 : decode cX3_servedCount 36 = .ok (.iinc 2 1, 3) := by decide +kernel
theorem dX3_servedCount_39 : decode cX3_servedCount 39 = .ok (.goto (-35), 3) := by decide +kernel
theorem dX3_servedCount_42 : decode cX3_servedCount 42 = .ok (.iload_n 1, 1) := by decide +kernel
theorem dX3_servedCount_43 : decode cX3_servedCount 43 = .ok (.ireturn, 1) := by decide +kernel
theorem dX3_rankOfAll_0 : decode cX3_rankOfAll 0 = .ok (.iconst 0, 1) := by decide +kernel
theorem dX3_rankOfAll_1 : decode cX3_rankOfAll 1 = .ok (.istore_n 1, 1) := by decide +kernel
theorem dX3_rankOfAll_2 : decode cX3_rankOfAll 2 = .ok (.iconst 0, 1) := by decide +kernel
theorem dX3_rankOfAll_3 : decode cX3_rankOfAll 3 = .ok (.istore_n 2, 1) := by decide +kernel
theorem dX3_rankOfAll_4 : decode cX3_rankOfAll 4 = .ok (.iload_n 2, 1) := by decide +kernel
theorem dX3_rankOfAll_5 : decode cX3_rankOfAll 5 = .ok (.aload_n 0, 1) := by decide +kernel
theorem dX3_rankOfAll_6 : decode cX3_rankOfAll 6 = .ok (.getfield 16, 3) := by decide +kernel
theorem dX3_rankOfAll_9 : decode cX3_rankOfAll 9 = .ok (.invokevirtual 58, 3) := by decide +kernel
theorem dX3_rankOfAll_12 : decode cX3_rankOfAll 12 = .ok (.if_icmp .ge 29, 3) := by decide +kernel
theorem dX3_rankOfAll_15 : decode cX3_rankOfAll 15 = .ok (.iload_n 1, 1) := by decide +kernel
theorem dX3_rankOfAll_16 : decode cX3_rankOfAll 16 = .ok (.aload_n 0, 1) := by decide +kernel
theorem dX3_rankOfAll_17 : decode cX3_rankOfAll 17 = .ok (.getfield 16, 3) := by decide +kernel
theorem dX3_rankOfAll_20 : decode cX3_rankOfAll 20 = .ok (.iload_n 2, 1) := by decide +kernel
theorem dX3_rankOfAll_21 : decode cX3_rankOfAll 21 = .ok (.invokevirtual 74, 3) := by decide +kernel
theorem dX3_rankOfAll_24 : decode cX3_rankOfAll 24 = .ok (.checkcast 62, 3) := by decide +kernel
theorem dX3_rankOfAll_27 : decode cX3_rankOfAll 27 = .ok (.getfield 126, 3) := by decide +kernel
theorem dX3_rankOfAll_30 : decode cX3_rankOfAll 30 = .ok (.getfield 129, 3) := by decide +kernel
theorem dX3_rankOfAll_33 : decode cX3_rankOfAll 33 = .ok (.iadd, 1) := by decide +kernel
theorem dX3_rankOfAll_34 : decode cX3_rankOfAll 34 = .ok (.istore_n 1, 1) := by decide +kernel
theorem dX3_rankOfAll_35 : decode cX3_rankOfAll 35 = .ok (.iinc 2 1, 3) := by decide +kernel
theorem dX3_rankOfAll_38 : decode cX3_rankOfAll 38 = .ok (.goto (-34), 3) := by decide +kernel
theorem dX3_rankOfAll_41 : decode cX3_rankOfAll 41 = .ok (.iload_n 1, 1) := by decide +kernel
theorem dX3_rankOfAll_42 : decode cX3_rankOfAll 42 = .ok (.ireturn, 1) := by decide +kernel
theorem dX3_findNeeds_0 : decode cX3_findNeeds 0 = .ok (.aload_n 0, 1) := by decide +kernel
theorem dX3_findNeeds_1 : decode cX3_findNeeds 1 = .ok (.getfield 33, 3) := by decide +kernel
theorem dX3_findNeeds_4 : decode cX3_findNeeds 4 = .ok (.iconst 0, 1) := by decide +kernel
theorem dX3_findNeeds_5 : decode cX3_findNeeds 5 = .ok (.putfield 159, 3) := by decide +kernel
theorem dX3_findNeeds_8 : decode cX3_findNeeds 8 = .ok (.iconst 0, 1) := by decide +kernel
theorem dX3_findNeeds_9 : decode cX3_findNeeds 9 = .ok (.istore_n 1, 1) := by decide +kernel
theorem dX3_findNeeds_10 : decode cX3_findNeeds 10 = .ok (.iload_n 1, 1) := by decide +kernel
theorem dX3_findNeeds_11 : decode cX3_findNeeds 11 = .ok (.aload_n 0, 1) := by decide +kernel
theorem dX3_findNeeds_12 : decode cX3_findNeeds 12 = .ok (.getfield 16, 3) := by decide +kernel
theorem dX3_findNeeds_15 : decode cX3_findNeeds 15 = .ok (.invokevirtual 58, 3) := by decide +kernel
theorem dX3_findNeeds_18 : decode cX3_findNeeds 18 = .ok (.if_icmp .ge 79, 3) := by decide +kernel
theorem dX3_findNeeds_21 : decode cX3_findNeeds 21 = .ok (.aload_n 0, 1) := by decide +kernel
theorem dX3_findNeeds_22 : decode cX3_findNeeds 22 = .ok (.getfield 16, 3) := by decide +kernel
theorem dX3_findNeeds_25 : decode cX3_findNeeds 25 = .ok (.iload_n 1, 1) := by decide +kernel
theorem dX3_findNeeds_26 : decode cX3_findNeeds 26 = .ok (.invokevirtual 74, 3) := by decide +kernel
theorem dX3_findNeeds_29 : decode cX3_findNeeds 29 = .ok (.checkcast 62, 3) := by decide +kernel
theorem dX3_findNeeds_32 : decode cX3_findNeeds 32 = .ok (.astore_n 2, 1) := by decide +kernel
theorem dX3_findNeeds_33 : decode cX3_findNeeds 33 = .ok (.aload_n 0, 1) := by decide +kernel
theorem dX3_findNeeds_34 : decode cX3_findNeeds 34 = .ok (.invokevirtual 147, 3) := by decide +kernel
theorem dX3_findNeeds_37 : decode cX3_findNeeds 37 = .ok (.aload_n 2, 1) := by decide +kernel
theorem dX3_findNeeds_38 : decode cX3_findNeeds 38 = .ok (.getfield 126, 3) := by decide +kernel
theorem dX3_findNeeds_41 : decode cX3_findNeeds 41 = .ok (.invokevirtual 208, 3) := by decide +kernel
theorem dX3_findNeeds_44 : decode cX3_findNeeds 44 = .ok (.iconst (-1), 1) := by decide +kernel
theorem dX3_findNeeds_45 : decode cX3_findNeeds 45 = .ok (.ixor, 1) := by decide +kernel
theorem dX3_findNeeds_46 : decode cX3_findNeeds 46 = .ok (.iand, 1) := by decide +kernel
theorem dX3_findNeeds_47 : decode cX3_findNeeds 47 = .ok (.istore_n 3, 1) := by decide +kernel
theorem dX3_findNeeds_48 : decode cX3_findNeeds 48 = .ok (.iconst 0, 1) := by decide +kernel
theorem dX3_findNeeds_49 : decode cX3_findNeeds 49 = .ok (.istore 4, 2) := by decide +kernel
theorem dX3_findNeeds_51 : decode cX3_findNeeds 51 = .ok (.iload 4, 2) := by decide +kernel
theorem dX3_findNeeds_53 : decode cX3_findNeeds 53 = .ok (.aload_n 0, 1) := by decide +kernel
theorem dX3_findNeeds_54 : decode cX3_findNeeds 54 = .ok (.getfield 51, 3) := by decide +kernel
theorem dX3_findNeeds_57 : decode cX3_findNeeds 57 = .ok (.if_icmp .ge 34, 3) := by decide +kernel
theorem dX3_findNeeds_60 : decode cX3_findNeeds 60 = .ok (.iload 4, 2) := by decide +kernel
theorem dX3_findNeeds_62 : decode cX3_findNeeds 62 = .ok (.aload_n 2, 1) := by decide +kernel
theorem dX3_findNeeds_63 : decode cX3_findNeeds 63 = .ok (.getfield 81, 3) := by decide +kernel
theorem dX3_findNeeds_66 : decode cX3_findNeeds 66 = .ok (.iload_n 3, 1) := by decide +kernel
theorem dX3_findNeeds_67 : decode cX3_findNeeds 67 = .ok (.iand, 1) := by decide +kernel
theorem dX3_findNeeds_68 : decode cX3_findNeeds 68 = .ok (.invokestatic 84, 3) := by decide +kernel
theorem dX3_findNeeds_71 : decode cX3_findNeeds 71 = .ok (.ifCond .eq 14, 3) := by decide +kernel
theorem dX3_findNeeds_74 : decode cX3_findNeeds 74 = .ok (.aload_n 0, 1) := by decide +kernel
theorem dX3_findNeeds_75 : decode cX3_findNeeds 75 = .ok (.getfield 33, 3) := by decide +kernel
theorem dX3_findNeeds_78 : decode cX3_findNeeds 78 = .ok (.iload_n 1, 1) := by decide +kernel
theorem dX3_findNeeds_79 : decode cX3_findNeeds 79 = .ok (.iload 4, 2) := by decide +kernel
theorem dX3_findNeeds_81 : decode cX3_findNeeds 81 = .ok (.iload_n 3, 1) := by decide +kernel
theorem dX3_findNeeds_82 : decode cX3_findNeeds 82 = .ok (.invokevirtual 211, 3) := by decide +kernel
theorem dX3_findNeeds_85 : decode cX3_findNeeds 85 = .ok (.iinc 4 1, 3) := by decide +kernel
theorem dX3_findNeeds_88 : decode cX3_findNeeds 88 = .ok (.goto (-37), 3) := by decide +kernel
theorem dX3_findNeeds_91 : decode cX3_findNeeds 91 = .ok (.iinc 1 1, 3) := by decide +kernel
theorem dX3_findNeeds_94 : decode cX3_findNeeds 94 = .ok (.goto (-84), 3) := by decide +kernel
theorem dX3_findNeeds_97 : decode cX3_findNeeds 97 = .ok (.return_, 1) := by decide +kernel
theorem dX3_findLeast_0 : decode cX3_findLeast 0 = .ok (.iconst 0, 1) := by decide +kernel
theorem dX3_findLeast_1 : decode cX3_findLeast 1 = .ok (.istore_n 1, 1) := by decide +kernel
theorem dX3_findLeast_2 : decode cX3_findLeast 2 = .ok (.iload_n 1, 1) := by decide +kernel
theorem dX3_findLeast_3 : decode cX3_findLeast 3 = .ok (.aload_n 0, 1) := by decide +kernel
theorem dX3_findLeast_4 : decode cX3_findLeast 4 = .ok (.getfield 51, 3) := by decide +kernel
theorem dX3_findLeast_7 : decode cX3_findLeast 7 = .ok (.if_icmp .ge 20, 3) := by decide +kernel
theorem dX3_findLeast_10 : decode cX3_findLeast 10 = .ok (.aload_n 0, 1) := by decide +kernel
theorem dX3_findLeast_11 : decode cX3_findLeast 11 = .ok (.iconst 0, 1) := by decide +kernel
theorem dX3_findLeast_12 : decode cX3_findLeast 12 = .ok (.iload_n 1, 1) := by decide +kernel
theorem dX3_findLeast_13 : decode cX3_findLeast 13 = .ok (.invokestatic 215, 3) := by decide +kernel
theorem dX3_findLeast_16 : decode cX3_findLeast 16 = .ok (.ifCond .eq 5, 3) := by decide +kernel
theorem dX3_findLeast_19 : decode cX3_findLeast 19 = .ok (.iload_n 1, 1) := by decide +kernel
theorem dX3_findLeast_20 : decode cX3_findLeast 20 = .ok (.ireturn, 1) := by decide +kernel
theorem dX3_findLeast_21 : decode cX3_findLeast 21 = .ok (.iinc 1 1, 3) := by decide +kernel
theorem dX3_findLeast_24 : decode cX3_findLeast 24 = .ok (.goto (-22), 3) := by decide +kernel
theorem dX3_findLeast_27 : decode cX3_findLeast 27 = .ok (.aload_n 0, 1) := by decide +kernel
theorem dX3_findLeast_28 : decode cX3_findLeast 28 = .ok (.iconst 0, 1) := by decide +kernel
theorem dX3_findLeast_29 : decode cX3_findLeast 29 = .ok (.aload_n 0, 1) := by decide +kernel
theorem dX3_findLeast_30 : decode cX3_findLeast 30 = .ok (.getfield 51, 3) := by decide +kernel
theorem dX3_findLeast_33 : decode cX3_findLeast 33 = .ok (.invokestatic 215, 3) := by decide +kernel
theorem dX3_findLeast_36 : decode cX3_findLeast 36 = .ok (.pop, 1) := by decide +kernel
theorem dX3_findLeast_37 : decode cX3_findLeast 37 = .ok (.aload_n 0, 1) := by decide +kernel
theorem dX3_findLeast_38 : decode cX3_findLeast 38 = .ok (.getfield 51, 3) := by decide +kernel
theorem dX3_findLeast_41 : decode cX3_findLeast 41 = .ok (.ireturn, 1) := by decide +kernel
theorem dX3_completes_0 : decode cX3_completes 0 = .ok (.iload_n 1, 1) := by decide +kernel
theorem dX3_completes_1 : decode cX3_completes 1 = .ok (.iload_n 2, 1) := by decide +kernel
theorem dX3_completes_2 : decode cX3_completes 2 = .ok (.if_icmp .ge 12, 3) := by decide +kernel
theorem dX3_completes_5 : decode cX3_completes 5 = .ok (.iload_n 1, 1) := by decide +kernel
theorem dX3_completes_6 : decode cX3_completes 6 = .ok (.aload_n 0, 1) := by decide +kernel
theorem dX3_completes_7 : decode cX3_completes 7 = .ok (.getfield 44, 3) := by decide +kernel
theorem dX3_completes_10 : decode cX3_completes 10 = .ok (.arraylength, 1) := by decide +kernel
theorem dX3_completes_11 : decode cX3_completes 11 = .ok (.if_icmp .lt 9, 3) := by decide +kernel
theorem dX3_completes_14 : decode cX3_completes 14 = .ok (.aload_n 0, 1) := by decide +kernel
theorem dX3_completes_15 : decode cX3_completes 15 = .ok (.iload_n 2, 1) := by decide +kernel
theorem dX3_completes_16 : decode cX3_completes 16 = .ok (.invokevirtual 186, 3) := by decide +kernel
theorem dX3_completes_19 : decode cX3_completes 19 = .ok (.ireturn, 1) := by decide +kernel
theorem dX3_completes_20 : decode cX3_completes 20 = .ok (.iload_n 1, 1) := by decide +kernel
theorem dX3_completes_21 : decode cX3_completes 21 = .ok (.ifCond .ne 7, 3) := by decide +kernel
theorem dX3_completes_24 : decode cX3_completes 24 = .ok (.iconst 0, 1) := by decide +kernel
theorem dX3_completes_25 : decode cX3_completes 25 = .ok (.goto 11, 3) := by decide +kernel
theorem dX3_completes_28 : decode cX3_completes 28 = .ok (.aload_n 0, 1) := by decide +kernel
theorem dX3_completes_29 : decode cX3_completes 29 = .ok (.getfield 44, 3) := by decide +kernel
theorem dX3_completes_32 : decode cX3_completes 32 = .ok (.iload_n 1, 1) := by decide +kernel
theorem dX3_completes_33 : decode cX3_completes 33 = .ok (.iconst 1, 1) := by decide +kernel
theorem dX3_completes_34 : decode cX3_completes 34 = .ok (.isub, 1) := by decide +kernel
theorem dX3_completes_35 : decode cX3_completes 35 = .ok (.iaload, 1) := by decide +kernel
theorem dX3_completes_36 : decode cX3_completes 36 = .ok (.istore_n 3, 1) := by decide +kernel
theorem dX3_completes_37 : decode cX3_completes 37 = .ok (.aload_n 0, 1) := by decide +kernel
theorem dX3_completes_38 : decode cX3_completes 38 = .ok (.iload_n 1, 1) := by decide +kernel
theorem dX3_completes_39 : decode cX3_completes 39 = .ok (.invokevirtual 219, 3) := by decide +kernel
theorem dX3_completes_42 : decode cX3_completes 42 = .ok (.istore 4, 2) := by decide +kernel
theorem dX3_completes_44 : decode cX3_completes 44 = .ok (.iload_n 3, 1) := by decide +kernel
theorem dX3_completes_45 : decode cX3_completes 45 = .ok (.iconst 1, 1) := by decide +kernel
theorem dX3_completes_46 : decode cX3_completes 46 = .ok (.iadd, 1) := by decide +kernel
theorem dX3_completes_47 : decode cX3_completes 47 = .ok (.istore 5, 2) := by decide +kernel
theorem dX3_completes_49 : decode cX3_completes 49 = .ok (.iload 5, 2) := by decide +kernel
theorem dX3_completes_51 : decode cX3_completes 51 = .ok (.aload_n 0, 1) := by decide +kernel
theorem dX3_completes_52 : decode cX3_completes 52 = .ok (.invokevirtual 147, 3) := by decide +kernel
theorem dX3_completes_55 : decode cX3_completes 55 = .ok (.if_icmp .gt 38, 3) := by decide +kernel
theorem dX3_completes_58 : decode cX3_completes 58 = .ok (.iload 5, 2) := by decide +kernel
theorem dX3_completes_60 : decode cX3_completes 60 = .ok (.iload 4, 2) := by decide +kernel
theorem dX3_completes_62 : decode cX3_completes 62 = .ok (.iand, 1) := by decide +kernel
theorem dX3_completes_63 : decode cX3_completes 63 = .ok (.ifCond .ne 24, 3) := by decide +kernel
theorem dX3_completes_66 : decode cX3_completes 66 = .ok (.aload_n 0, 1) := by decide +kernel
theorem dX3_completes_67 : decode cX3_completes 67 = .ok (.getfield 44, 3) := by decide +kernel
theorem dX3_completes_70 : decode cX3_completes 70 = .ok (.iload_n 1, 1) := by decide +kernel
theorem dX3_completes_71 : decode cX3_completes 71 = .ok (.iload 5, 2) := by decide +kernel
theorem dX3_completes_73 : decode cX3_completes 73 = .ok (.iastore, 1) := by decide +kernel
theorem dX3_completes_74 : decode cX3_completes 74 = .ok (.aload_n 0, 1) := by decide +kernel
theorem dX3_completes_75 : decode cX3_completes 75 = .ok (.iload_n 1, 1) := by decide +kernel
theorem dX3_completes_76 : decode cX3_completes 76 = .ok (.iconst 1, 1) := by decide +kernel
theorem dX3_completes_77 : decode cX3_completes 77 = .ok (.iadd, 1) := by decide +kernel
theorem dX3_completes_78 : decode cX3_completes 78 = .ok (.iload_n 2, 1) := by decide +kernel
theorem dX3_completes_79 : decode cX3_completes 79 = .ok (.invokestatic 215, 3) := by decide +kernel
theorem dX3_completes_82 : decode cX3_completes 82 = .ok (.ifCond .eq 5, 3) := by decide +kernel
theorem dX3_completes_85 : decode cX3_completes 85 = .ok (.iconst 1, 1) := by decide +kernel
theorem dX3_completes_86 : decode cX3_completes 86 = .ok (.ireturn, 1) := by decide +kernel
theorem dX3_completes_87 : decode cX3_completes 87 = .ok (.iinc 5 1, 3) := by decide +kernel
theorem dX3_completes_90 : decode cX3_completes 90 = .ok (.goto (-41), 3) := by decide +kernel
theorem dX3_completes_93 : decode cX3_completes 93 = .ok (.iconst 0, 1) := by decide +kernel
theorem dX3_completes_94 : decode cX3_completes 94 = .ok (.ireturn, 1) := by decide +kernel
theorem dX3_highestBits_0 : decode cX3_highestBits 0 = .ok (.iconst 0, 1) := by decide +kernel
theorem dX3_highestBits_1 : decode cX3_highestBits 1 = .ok (.istore_n 2, 1) := by decide +kernel
theorem dX3_highestBits_2 : decode cX3_highestBits 2 = .ok (.iconst 0, 1) := by decide +kernel
theorem dX3_highestBits_3 : decode cX3_highestBits 3 = .ok (.istore_n 3, 1) := by decide +kernel
theorem dX3_highestBits_4 : decode cX3_highestBits 4 = .ok (.iload_n 3, 1) := by decide +kernel
theorem dX3_highestBits_5 : decode cX3_highestBits 5 = .ok (.iload_n 1, 1) := by decide +kernel
theorem dX3_highestBits_6 : decode cX3_highestBits 6 = .ok (.if_icmp .ge 30, 3) := by decide +kernel
theorem dX3_highestBits_9 : decode cX3_highestBits 9 = .ok (.iload_n 3, 1) := by decide +kernel
theorem dX3_highestBits_10 : decode cX3_highestBits 10 = .ok (.aload_n 0, 1) := by decide +kernel
theorem dX3_highestBits_11 : decode cX3_highestBits 11 = .ok (.getfield 44, 3) := by decide +kernel
theorem dX3_highestBits_14 : decode cX3_highestBits 14 = .ok (.arraylength, 1) := by decide +kernel
theorem dX3_highestBits_15 : decode cX3_highestBits 15 = .ok (.if_icmp .ge 21, 3) := by decide +kernel
theorem dX3_highestBits_18 : decode cX3_highestBits 18 = .ok (.iload_n 2, 1) := by decide +kernel
theorem dX3_highestBits_19 : decode cX3_highestBits 19 = .ok (.aload_n 0, 1) := by decide +kernel
theorem dX3_highestBits_20 : decode cX3_highestBits 20 = .ok (.getfield 44, 3) := by decide +kernel
theorem dX3_highestBits_23 : decode cX3_highestBits 23 = .ok (.iload_n 3, 1) := by decide +kernel
theorem dX3_highestBits_24 : decode cX3_highestBits 24 = .ok (.iaload, 1) := by decide +kernel
theorem dX3_highestBits_25 : decode cX3_highestBits 25 = .ok (.invokestatic 222, 3) := by decide +kernel
theorem dX3_highestBits_28 : decode cX3_highestBits 28 = .ok (.ior, 1) := by decide +kernel
theorem dX3_highestBits_29 : decode cX3_highestBits 29 = .ok (.istore_n 2, 1) := by decide +kernel
theorem dX3_highestBits_30 : decode cX3_highestBits 30 = .ok (.iinc 3 1, 3) := by decide +kernel
theorem dX3_highestBits_33 : decode cX3_highestBits 33 = .ok (.goto (-29), 3) := by decide +kernel
theorem dX3_highestBits_36 : decode cX3_highestBits 36 = .ok (.iload_n 2, 1) := by decide +kernel
theorem dX3_highestBits_37 : decode cX3_highestBits 37 = .ok (.ireturn, 1) := by decide +kernel
theorem dX3_isPlan_0 : decode cX3_isPlan 0 = .ok (.iconst 0, 1) := by decide +kernel
theorem dX3_isPlan_1 : decode cX3_isPlan 1 = .ok (.istore_n 2, 1) := by decide +kernel
theorem dX3_isPlan_2 : decode cX3_isPlan 2 = .ok (.iload_n 2, 1) := by decide +kernel
theorem dX3_isPlan_3 : decode cX3_isPlan 3 = .ok (.aload_n 0, 1) := by decide +kernel
theorem dX3_isPlan_4 : decode cX3_isPlan 4 = .ok (.getfield 16, 3) := by decide +kernel
theorem dX3_isPlan_7 : decode cX3_isPlan 7 = .ok (.invokevirtual 58, 3) := by decide +kernel
theorem dX3_isPlan_10 : decode cX3_isPlan 10 = .ok (.if_icmp .ge 90, 3) := by decide +kernel
theorem dX3_isPlan_13 : decode cX3_isPlan 13 = .ok (.aload_n 0, 1) := by decide +kernel
theorem dX3_isPlan_14 : decode cX3_isPlan 14 = .ok (.getfield 16, 3) := by decide +kernel
theorem dX3_isPlan_17 : decode cX3_isPlan 17 = .ok (.iload_n 2, 1) := by decide +kernel
theorem dX3_isPlan_18 : decode cX3_isPlan 18 = .ok (.invokevirtual 74, 3) := by decide +kernel
theorem dX3_isPlan_21 : decode cX3_isPlan 21 = .ok (.checkcast 62, 3) := by decide +kernel
theorem dX3_isPlan_24 : decode cX3_isPlan 24 = .ok (.astore_n 3, 1) := by decide +kernel
theorem dX3_isPlan_25 : decode cX3_isPlan 25 = .ok (.aload_n 0, 1) := by decide +kernel
theorem dX3_isPlan_26 : decode cX3_isPlan 26 = .ok (.getfield 40, 3) := by decide +kernel
theorem dX3_isPlan_29 : decode cX3_isPlan 29 = .ok (.aload_n 3, 1) := by decide +kernel
theorem dX3_isPlan_30 : decode cX3_isPlan 30 = .ok (.getfield 126, 3) := by decide +kernel
theorem dX3_isPlan_33 : decode cX3_isPlan 33 = .ok (.invokevirtual 227, 3) := by decide +kernel
theorem dX3_isPlan_36 : decode cX3_isPlan 36 = .ok (.iconst 0, 1) := by decide +kernel
theorem dX3_isPlan_37 : decode cX3_isPlan 37 = .ok (.istore 4, 2) := by decide +kernel
theorem dX3_isPlan_39 : decode cX3_isPlan 39 = .ok (.iload 4, 2) := by decide +kernel
theorem dX3_isPlan_41 : decode cX3_isPlan 41 = .ok (.iload_n 1, 1) := by decide +kernel
theorem dX3_isPlan_42 : decode cX3_isPlan 42 = .ok (.if_icmp .ge 35, 3) := by decide +kernel
theorem dX3_isPlan_45 : decode cX3_isPlan 45 = .ok (.iload 4, 2) := by decide +kernel
theorem dX3_isPlan_47 : decode cX3_isPlan 47 = .ok (.aload_n 0, 1) := by decide +kernel
theorem dX3_isPlan_48 : decode cX3_isPlan 48 = .ok (.getfield 44, 3) := by decide +kernel
theorem dX3_isPlan_51 : decode cX3_isPlan 51 = .ok (.arraylength, 1) := by decide +kernel
theorem dX3_isPlan_52 : decode cX3_isPlan 52 = .ok (.if_icmp .ge 25, 3) := by decide +kernel
theorem dX3_isPlan_55 : decode cX3_isPlan 55 = .ok (.aload_n 0, 1) := by decide +kernel
theorem dX3_isPlan_56 : decode cX3_isPlan 56 = .ok (.getfield 40, 3) := by decide +kernel
theorem dX3_isPlan_59 : decode cX3_isPlan 59 = .ok (.aload_n 0, 1) := by decide +kernel
theorem dX3_isPlan_60 : decode cX3_isPlan 60 = .ok (.getfield 44, 3) := by decide +kernel
theorem dX3_isPlan_63 : decode cX3_isPlan 63 = .ok (.iload 4, 2) := by decide +kernel
theorem dX3_isPlan_65 : decode cX3_isPlan 65 = .ok (.iaload, 1) := by decide +kernel
theorem dX3_isPlan_66 : decode cX3_isPlan 66 = .ok (.lconst 0, 1) := by decide +kernel
theorem dX3_isPlan_67 : decode cX3_isPlan 67 = .ok (.invokevirtual 231, 3) := by decide +kernel
theorem dX3_isPlan_70 : decode cX3_isPlan 70 = .ok (.pop, 1) := by decide +kernel
theorem dX3_isPlan_71 : decode cX3_isPlan 71 = .ok (.iinc 4 1, 3) := by decide +kernel
theorem dX3_isPlan_74 : decode cX3_isPlan 74 = .ok (.goto (-35), 3) := by decide +kernel
theorem dX3_isPlan_77 : decode cX3_isPlan 77 = .ok (.aload_n 3, 1) := by decide +kernel
theorem dX3_isPlan_78 : decode cX3_isPlan 78 = .ok (.aload_n 0, 1) := by decide +kernel
theorem dX3_isPlan_79 : decode cX3_isPlan 79 = .ok (.getfield 40, 3) := by decide +kernel
theorem dX3_isPlan_82 : decode cX3_isPlan 82 = .ok (.aload_n 0, 1) := by decide +kernel
theorem dX3_isPlan_83 : decode cX3_isPlan 83 = .ok (.invokevirtual 147, 3) := by decide +kernel
theorem dX3_isPlan_86 : decode cX3_isPlan 86 = .ok (.invokevirtual 204, 3) := by decide +kernel
theorem dX3_isPlan_89 : decode cX3_isPlan 89 = .ok (.ifCond .ne 5, 3) := by decide +kernel
theorem dX3_isPlan_92 : decode cX3_isPlan 92 = .ok (.iconst 0, 1) := by decide +kernel
theorem dX3_isPlan_93 : decode cX3_isPlan 93 = .ok (.ireturn, 1) := by decide +kernel
theorem dX3_isPlan_94 : decode cX3_isPlan 94 = .ok (.iinc 2 1, 3) := by decide +kernel
theorem dX3_isPlan_97 : decode cX3_isPlan 97 = .ok (.goto (-95), 3) := by decide +kernel
theorem dX3_isPlan_100 : decode cX3_isPlan 100 = .ok (.iconst 1, 1) := by decide +kernel
theorem dX3_isPlan_101 : decode cX3_isPlan 101 = .ok (.ireturn, 1) := by decide +kernel
theorem dX3_bestMask_0 : decode cX3_bestMask 0 = .ok (.aload_n 0, 1) := by decide +kernel
theorem dX3_bestMask_1 : decode cX3_bestMask 1 = .ok (.invokevirtual 235, 3) := by decide +kernel
theorem dX3_bestMask_4 : decode cX3_bestMask 4 = .ok (.istore_n 1, 1) := by decide +kernel
theorem dX3_bestMask_5 : decode cX3_bestMask 5 = .ok (.iload_n 1, 1) := by decide +kernel
theorem dX3_bestMask_6 : decode cX3_bestMask 6 = .ok (.ifCond .ne 5, 3) := by decide +kernel
theorem dX3_bestMask_9 : decode cX3_bestMask 9 = .ok (.iconst 0, 1) := by decide +kernel
theorem dX3_bestMask_10 : decode cX3_bestMask 10 = .ok (.ireturn, 1) := by decide +kernel
theorem dX3_bestMask_11 : decode cX3_bestMask 11 = .ok (.iconst 0, 1) := by decide +kernel
theorem dX3_bestMask_12 : decode cX3_bestMask 12 = .ok (.istore_n 2, 1) := by decide +kernel
theorem dX3_bestMask_13 : decode cX3_bestMask 13 = .ok (.iconst 0, 1) := by decide +kernel
theorem dX3_bestMask_14 : decode cX3_bestMask 14 = .ok (.istore_n 3, 1) := by decide +kernel
theorem dX3_bestMask_15 : decode cX3_bestMask 15 = .ok (.iconst 1, 1) := by decide +kernel
theorem dX3_bestMask_16 : decode cX3_bestMask 16 = .ok (.istore 4, 2) := by decide +kernel
theorem dX3_bestMask_18 : decode cX3_bestMask 18 = .ok (.iload 4, 2) := by decide +kernel
theorem dX3_bestMask_20 : decode cX3_bestMask 20 = .ok (.aload_n 0, 1) := by decide +kernel
theorem dX3_bestMask_21 : decode cX3_bestMask 21 = .ok (.invokevirtual 147, 3) := by decide +kernel
theorem dX3_bestMask_24 : decode cX3_bestMask 24 = .ok (.if_icmp .gt 30, 3) := by decide +kernel
theorem dX3_bestMask_27 : decode cX3_bestMask 27 = .ok (.aload_n 0, 1) := by decide +kernel
theorem dX3_bestMask_28 : decode cX3_bestMask 28 = .ok (.iload 4, 2) := by decide +kernel
theorem dX3_bestMask_30 : decode cX3_bestMask 30 = .ok (.iload_n 1, 1) := by decide +kernel
theorem dX3_bestMask_31 : decode cX3_bestMask 31 = .ok (.invokevirtual 238, 3) := by decide +kernel
theorem dX3_bestMask_34 : decode cX3_bestMask 34 = .ok (.istore 5, 2) := by decide +kernel
theorem dX3_bestMask_36 : decode cX3_bestMask 36 = .ok (.iload 5, 2) := by decide +kernel
theorem dX3_bestMask_38 : decode cX3_bestMask 38 = .ok (.iload_n 3, 1) := by decide +kernel
theorem dX3_bestMask_39 : decode cX3_bestMask 39 = .ok (.if_icmp .le 9, 3) := by decide +kernel
theorem dX3_bestMask_42 : decode cX3_bestMask 42 = .ok (.iload 4, 2) := by decide +kernel
theorem dX3_bestMask_44 : decode cX3_bestMask 44 = .ok (.istore_n 2, 1) := by decide +kernel
theorem dX3_bestMask_45 : decode cX3_bestMask 45 = .ok (.iload 5, 2) := by decide +kernel
theorem dX3_bestMask_47 : decode cX3_bestMask 47 = .ok (.istore_n 3, 1) := by decide +kernel
theorem dX3_bestMask_48 : decode cX3_bestMask 48 = .ok (.iinc 4 1, 3) := by decide +kernel
theorem dX3_bestMask_51 : decode cX3_bestMask 51 = .ok (.goto (-33), 3) := by decide +kernel
theorem dX3_bestMask_54 : decode cX3_bestMask 54 = .ok (.iload_n 2, 1) := by decide +kernel
theorem dX3_bestMask_55 : decode cX3_bestMask 55 = .ok (.ireturn, 1) := by decide +kernel
theorem dX3_waitingListeners_0 : decode cX3_waitingListeners 0 = .ok (.iconst 0, 1) := by decide +kernel
theorem dX3_waitingListeners_1 : decode cX3_waitingListeners 1 = .ok (.istore_n 1, 1) := by decide +kernel
theorem dX3_waitingListeners_2 : decode cX3_waitingListeners 2 = .ok (.iconst 0, 1) := by decide +kernel
theorem dX3_waitingListeners_3 : decode cX3_waitingListeners 3 = .ok (.istore_n 2, 1) := by decide +kernel
theorem dX3_waitingListeners_4 : decode cX3_waitingListeners 4 = .ok (.iload_n 2, 1) := by decide +kernel
theorem dX3_waitingListeners_5 : decode cX3_waitingListeners 5 = .ok (.aload_n 0, 1) := by decide +kernel
theorem dX3_waitingListeners_6 : decode cX3_waitingListeners 6 = .ok (.getfield 16, 3) := by decide +kernel
theorem dX3_waitingListeners_9 : decode cX3_waitingListeners 9 = .ok (.invokevirtual 58, 3) := by decide +kernel
theorem dX3_waitingListeners_12 : decode cX3_waitingListeners 12 = .ok (.if_icmp .ge 42, 3) := by decide +kernel
theorem dX3_waitingListeners_15 : decode cX3_waitingListeners 15 = .ok (.aload_n 0, 1) := by decide +kernel
theorem dX3_waitingListeners_16 : decode cX3_waitingListeners 16 = .ok (.getfield 16, 3) := by decide +kernel
theorem dX3_waitingListeners_19 : decode cX3_waitingListeners 19 = .ok (.iload_n 2, 1) := by decide +kernel
theorem dX3_waitingListeners_20 : decode cX3_waitingListeners 20 = .ok (.invokevirtual 74, 3) := by decide +kernel
theorem dX3_waitingListeners_23 : decode cX3_waitingListeners 23 = .ok (.checkcast 62, 3) := by decide +kernel
theorem dX3_waitingListeners_26 : decode cX3_waitingListeners 26 = .ok (.astore_n 3, 1) := by decide +kernel
theorem dX3_waitingListeners_27 : decode cX3_waitingListeners 27 = .ok (.aload_n 3, 1) := by decide +kernel
theorem dX3_waitingListeners_28 : decode cX3_waitingListeners 28 = .ok (.getfield 100, 3) := by decide +kernel
theorem dX3_waitingListeners_31 : decode cX3_waitingListeners 31 = .ok (.ifCond .ne 17, 3) := by decide +kernel
theorem dX3_waitingListeners_34 : decode cX3_waitingListeners 34 = .ok (.aload_n 0, 1) := by decide +kernel
theorem dX3_waitingListeners_35 : decode cX3_waitingListeners 35 = .ok (.aload_n 3, 1) := by decide +kernel
theorem dX3_waitingListeners_36 : decode cX3_waitingListeners 36 = .ok (.invokevirtual 132, 3) := by decide +kernel
theorem dX3_waitingListeners_39 : decode cX3_waitingListeners 39 = .ok (.ifCond .ne 9, 3) := by decide +kernel
theorem dX3_waitingListeners_42 : decode cX3_waitingListeners 42 = .ok (.iload_n 1, 1) := by decide +kernel
theorem dX3_waitingListeners_43 : decode cX3_waitingListeners 43 = .ok (.iconst 1, 1) := by decide +kernel
theorem dX3_waitingListeners_44 : decode cX3_waitingListeners 44 = .ok (.iload_n 2, 1) := by decide +kernel
theorem dX3_waitingListeners_45 : decode cX3_waitingListeners 45 = .ok (.ishl, 1) := by decide +kernel
theorem dX3_waitingListeners_46 : decode cX3_waitingListeners 46 = .ok (.ior, 1) := by decide +kernel
theorem dX3_waitingListeners_47 : decode cX3_waitingListeners 47 = .ok (.istore_n 1, 1) := by decide +kernel
theorem dX3_waitingListeners_48 : decode cX3_waitingListeners 48 = .ok (.iinc 2 1, 3) := by decide +kernel
theorem dX3_waitingListeners_51 : decode cX3_waitingListeners 51 = .ok (.goto (-47), 3) := by decide +kernel
theorem dX3_waitingListeners_54 : decode cX3_waitingListeners 54 = .ok (.iload_n 1, 1) := by decide +kernel
theorem dX3_waitingListeners_55 : decode cX3_waitingListeners 55 = .ok (.ireturn, 1) := by decide +kernel
theorem dX3_worthOf_0 : decode cX3_worthOf 0 = .ok (.iconst 0, 1) := by decide +kernel
theorem dX3_worthOf_1 : decode cX3_worthOf 1 = .ok (.istore_n 3, 1) := by decide +kernel
theorem dX3_worthOf_2 : decode cX3_worthOf 2 = .ok (.iconst 0, 1) := by decide +kernel
theorem dX3_worthOf_3 : decode cX3_worthOf 3 = .ok (.istore 4, 2) := by decide +kernel
theorem dX3_worthOf_5 : decode cX3_worthOf 5 = .ok (.iconst 0, 1) := by decide +kernel
theorem dX3_worthOf_6 : decode cX3_worthOf 6 = .ok (.istore 5, 2) := by decide +kernel
theorem dX3_worthOf_8 : decode cX3_worthOf 8 = .ok (.iload 5, 2) := by decide +kernel
theorem dX3_worthOf_10 : decode cX3_worthOf 10 = .ok (.aload_n 0, 1) := by decide +kernel
theorem dX3_worthOf_11 : decode cX3_worthOf 11 = .ok (.getfield 16, 3) := by decide +kernel
theorem dX3_worthOf_14 : decode cX3_worthOf 14 = .ok (.invokevirtual 58, 3) := by decide +kernel
theorem dX3_worthOf_17 : decode cX3_worthOf 17 = .ok (.if_icmp .ge 68, 3) := by decide +kernel
theorem dX3_worthOf_20 : decode cX3_worthOf 20 = .ok (.iload 5, 2) := by decide +kernel
theorem dX3_worthOf_22 : decode cX3_worthOf 22 = .ok (.iload_n 2, 1) := by decide +kernel
theorem dX3_worthOf_23 : decode cX3_worthOf 23 = .ok (.invokestatic 84, 3) := by decide +kernel
theorem dX3_worthOf_26 : decode cX3_worthOf 26 = .ok (.ifCond .eq 53, 3) := by decide +kernel
theorem dX3_worthOf_29 : decode cX3_worthOf 29 = .ok (.aload_n 0, 1) := by decide +kernel
theorem dX3_worthOf_30 : decode cX3_worthOf 30 = .ok (.getfield 16, 3) := by decide +kernel
theorem dX3_worthOf_33 : decode cX3_worthOf 33 = .ok (.iload 5, 2) := by decide +kernel
theorem dX3_worthOf_35 : decode cX3_worthOf 35 = .ok (.invokevirtual 74, 3) := by decide +kernel
theorem dX3_worthOf_38 : decode cX3_worthOf 38 = .ok (.checkcast 62, 3) := by decide +kernel
theorem dX3_worthOf_41 : decode cX3_worthOf 41 = .ok (.astore 6, 2) := by decide +kernel
theorem dX3_worthOf_43 : decode cX3_worthOf 43 = .ok (.aload 6, 2) := by decide +kernel
theorem dX3_worthOf_45 : decode cX3_worthOf 45 = .ok (.getfield 126, 3) := by decide +kernel
theorem dX3_worthOf_48 : decode cX3_worthOf 48 = .ok (.iload_n 1, 1) := by decide +kernel
theorem dX3_worthOf_49 : decode cX3_worthOf 49 = .ok (.invokevirtual 242, 3) := by decide +kernel
theorem dX3_worthOf_52 : decode cX3_worthOf 52 = .ok (.istore 7, 2) := by decide +kernel
theorem dX3_worthOf_54 : decode cX3_worthOf 54 = .ok (.iload 7, 2) := by decide +kernel
theorem dX3_worthOf_56 : decode cX3_worthOf 56 = .ok (.ifCond .eq 23, 3) := by decide +kernel
theorem dX3_worthOf_59 : decode cX3_worthOf 59 = .ok (.iinc 4 1, 3) := by decide +kernel
theorem dX3_worthOf_62 : decode cX3_worthOf 62 = .ok (.iload_n 3, 1) := by decide +kernel
theorem dX3_worthOf_63 : decode cX3_worthOf 63 = .ok (.aload 6, 2) := by decide +kernel
theorem dX3_worthOf_65 : decode cX3_worthOf 65 = .ok (.iload 7, 2) := by decide +kernel
theorem dX3_worthOf_67 : decode cX3_worthOf 67 = .ok (.aload_n 0, 1) := by decide +kernel
theorem dX3_worthOf_68 : decode cX3_worthOf 68 = .ok (.invokevirtual 147, 3) := by decide +kernel
theorem dX3_worthOf_71 : decode cX3_worthOf 71 = .ok (.invokevirtual 245, 3) := by decide +kernel
theorem dX3_worthOf_74 : decode cX3_worthOf 74 = .ok (.invokestatic 104, 3) := by decide +kernel
theorem dX3_worthOf_77 : decode cX3_worthOf 77 = .ok (.iadd, 1) := by decide +kernel
theorem dX3_worthOf_78 : decode cX3_worthOf 78 = .ok (.istore_n 3, 1) := by decide +kernel
theorem dX3_worthOf_79 : decode cX3_worthOf 79 = .ok (.iinc 5 1, 3) := by decide +kernel
theorem dX3_worthOf_82 : decode cX3_worthOf 82 = .ok (.goto (-74), 3) := by decide +kernel
theorem dX3_worthOf_85 : decode cX3_worthOf 85 = .ok (.iload_n 3, 1) := by decide +kernel
theorem dX3_worthOf_86 : decode cX3_worthOf 86 = .ok (.bipush 11, 2) := by decide +kernel
theorem dX3_worthOf_88 : decode cX3_worthOf 88 = .ok (.imul, 1) := by decide +kernel
theorem dX3_worthOf_89 : decode cX3_worthOf 89 = .ok (.iload 4, 2) := by decide +kernel
theorem dX3_worthOf_91 : decode cX3_worthOf 91 = .ok (.iadd, 1) := by decide +kernel
theorem dX3_worthOf_92 : decode cX3_worthOf 92 = .ok (.ireturn, 1) := by decide +kernel
