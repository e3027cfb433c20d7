theorem dX4_init_0 : decode cX4_init 0 = .ok (.aload_n 0, 1) := by decide +kernel
theorem dX4_init_1 : decode cX4_init 1 = .ok (.invokespecial 1, 3) := by decide +kernel
theorem dX4_init_4 : decode cX4_init 4 = .ok (.aload_n 0, 1) := by decide +kernel
theorem dX4_init_5 : decode cX4_init 5 = .ok (.iconst 0, 1) := by decide +kernel
theorem dX4_init_6 : decode cX4_init 6 = .ok (.putfield 7, 3) := by decide +kernel
theorem dX4_init_9 : decode cX4_init 9 = .ok (.aload_n 0, 1) := by decide +kernel
theorem dX4_init_10 : decode cX4_init 10 = .ok (.iconst 0, 1) := by decide +kernel
theorem dX4_init_11 : decode cX4_init 11 = .ok (.putfield 13, 3) := by decide +kernel
theorem dX4_init_14 : decode cX4_init 14 = .ok (.aload_n 0, 1) := by decide +kernel
theorem dX4_init_15 : decode cX4_init 15 = .ok (.iconst 0, 1) := by decide +kernel
theorem dX4_init_16 : decode cX4_init 16 = .ok (.putfield 16, 3) := by decide +kernel
theorem dX4_init_19 : decode cX4_init 19 = .ok (.aload_n 0, 1) := by decide +kernel
theorem dX4_init_20 : decode cX4_init 20 = .ok (.bipush 10, 2) := by decide +kernel
theorem dX4_init_22 : decode cX4_init 22 = .ok (.newarray .long, 2) := by decide +kernel
theorem dX4_init_24 : decode cX4_init 24 = .ok (.putfield 19, 3) := by decide +kernel
theorem dX4_init_27 : decode cX4_init 27 = .ok (.aload_n 0, 1) := by decide +kernel
theorem dX4_init_28 : decode cX4_init 28 = .ok (.bipush 10, 2) := by decide +kernel
theorem dX4_init_30 : decode cX4_init 30 = .ok (.newarray .int, 2) := by decide +kernel
theorem dX4_init_32 : decode cX4_init 32 = .ok (.putfield 23, 3) := by decide +kernel
theorem dX4_init_35 : decode cX4_init 35 = .ok (.aload_n 0, 1) := by decide +kernel
theorem dX4_init_36 : decode cX4_init 36 = .ok (.bipush 10, 2) := by decide +kernel
theorem dX4_init_38 : decode cX4_init 38 = .ok (.newarray .int, 2) := by decide +kernel
theorem dX4_init_40 : decode cX4_init 40 = .ok (.putfield 27, 3) := by decide +kernel
theorem dX4_init_43 : decode cX4_init 43 = .ok (.aload_n 0, 1) := by decide +kernel
theorem dX4_init_44 : decode cX4_init 44 = .ok (.bipush 10, 2) := by decide +kernel
theorem dX4_init_46 : decode cX4_init 46 = .ok (.newarray .int, 2) := by decide +kernel
theorem dX4_init_48 : decode cX4_init 48 = .ok (.putfield 30, 3) := by decide +kernel
theorem dX4_init_51 : decode cX4_init 51 = .ok (.aload_n 0, 1) := by decide +kernel
theorem dX4_init_52 : decode cX4_init 52 = .ok (.bipush 120, 2) := by decide +kernel
theorem dX4_init_54 : decode cX4_init 54 = .ok (.newarray .int, 2) := by decide +kernel
theorem dX4_init_56 : decode cX4_init 56 = .ok (.putfield 33, 3) := by decide +kernel
theorem dX4_init_59 : decode cX4_init 59 = .ok (.aload_n 0, 1) := by decide +kernel
theorem dX4_init_60 : decode cX4_init 60 = .ok (.bipush 10, 2) := by decide +kernel
theorem dX4_init_62 : decode cX4_init 62 = .ok (.newarray .boolean, 2) := by decide +kernel
theorem dX4_init_64 : decode cX4_init 64 = .ok (.putfield 36, 3) := by decide +kernel
theorem dX4_init_67 : decode cX4_init 67 = .ok (.aload_n 0, 1) := by decide +kernel
theorem dX4_init_68 : decode cX4_init 68 = .ok (.bipush 40, 2) := by decide +kernel
theorem dX4_init_70 : decode cX4_init 70 = .ok (.newarray .int, 2) := by decide +kernel
theorem dX4_init_72 : decode cX4_init 72 = .ok (.putfield 40, 3) := by decide +kernel
theorem dX4_init_75 : decode cX4_init 75 = .ok (.aload_n 0, 1) := by decide +kernel
theorem dX4_init_76 : decode cX4_init 76 = .ok (.bipush 40, 2) := by decide +kernel
theorem dX4_init_78 : decode cX4_init 78 = .ok (.newarray .int, 2) := by decide +kernel
theorem dX4_init_80 : decode cX4_init 80 = .ok (.putfield 43, 3) := by decide +kernel
theorem dX4_init_83 : decode cX4_init 83 = .ok (.aload_n 0, 1) := by decide +kernel
theorem dX4_init_84 : decode cX4_init 84 = .ok (.bipush 56, 2) := by decide +kernel
theorem dX4_init_86 : decode cX4_init 86 = .ok (.newarray .int, 2) := by decide +kernel
theorem dX4_init_88 : decode cX4_init 88 = .ok (.putfield 46, 3) := by decide +kernel
theorem dX4_init_91 : decode cX4_init 91 = .ok (.aload_n 0, 1) := by decide +kernel
theorem dX4_init_92 : decode cX4_init 92 = .ok (.bipush 56, 2) := by decide +kernel
theorem dX4_init_94 : decode cX4_init 94 = .ok (.newarray .boolean, 2) := by decide +kernel
theorem dX4_init_96 : decode cX4_init 96 = .ok (.putfield 49, 3) := by decide +kernel
theorem dX4_init_99 : decode cX4_init 99 = .ok (.aload_n 0, 1) := by decide +kernel
theorem dX4_init_100 : decode cX4_init 100 = .ok (.iconst 0, 1) := by decide +kernel
theorem dX4_init_101 : decode cX4_init 101 = .ok (.putfield 52, 3) := by decide +kernel
theorem dX4_init_104 : decode cX4_init 104 = .ok (.aload_n 0, 1) := by decide +kernel
theorem dX4_init_105 : decode cX4_init 105 = .ok (.iconst 0, 1) := by decide +kernel
theorem dX4_init_106 : decode cX4_init 106 = .ok (.putfield 55, 3) := by decide +kernel
theorem dX4_init_109 : decode cX4_init 109 = .ok (.aload_n 0, 1) := by decide +kernel
theorem dX4_init_110 : decode cX4_init 110 = .ok (.sipush 10240, 3) := by decide +kernel
theorem dX4_init_113 : decode cX4_init 113 = .ok (.newarray .boolean, 2) := by decide +kernel
theorem dX4_init_115 : decode cX4_init 115 = .ok (.putfield 58, 3) := by decide +kernel
theorem dX4_init_118 : decode cX4_init 118 = .ok (.aload_n 0, 1) := by decide +kernel
theorem dX4_init_119 : decode cX4_init 119 = .ok (.sipush 1024, 3) := by decide +kernel
theorem dX4_init_122 : decode cX4_init 122 = .ok (.newarray .boolean, 2) := by decide +kernel
theorem dX4_init_124 : decode cX4_init 124 = .ok (.putfield 61, 3) := by decide +kernel
theorem dX4_init_127 : decode cX4_init 127 = .ok (.aload_n 0, 1) := by decide +kernel
theorem dX4_init_128 : decode cX4_init 128 = .ok (.bipush 10, 2) := by decide +kernel
theorem dX4_init_130 : decode cX4_init 130 = .ok (.newarray .int, 2) := by decide +kernel
theorem dX4_init_132 : decode cX4_init 132 = .ok (.putfield 64, 3) := by decide +kernel
theorem dX4_init_135 : decode cX4_init 135 = .ok (.aload_n 0, 1) := by decide +kernel
theorem dX4_init_136 : decode cX4_init 136 = .ok (.bipush 100, 2) := by decide +kernel
theorem dX4_init_138 : decode cX4_init 138 = .ok (.newarray .int, 2) := by decide +kernel
theorem dX4_init_140 : decode cX4_init 140 = .ok (.putfield 67, 3) := by decide +kernel
theorem dX4_init_143 : decode cX4_init 143 = .ok (.aload_n 0, 1) := by decide +kernel
theorem dX4_init_144 : decode cX4_init 144 = .ok (.bipush 100, 2) := by decide +kernel
theorem dX4_init_146 : decode cX4_init 146 = .ok (.newarray .int, 2) := by decide +kernel
theorem dX4_init_148 : decode cX4_init 148 = .ok (.putfield 70, 3) := by decide +kernel
theorem dX4_init_151 : decode cX4_init 151 = .ok (.aload_n 0, 1) := by decide +kernel
theorem dX4_init_152 : decode cX4_init 152 = .ok (.iconst 0, 1) := by decide +kernel
theorem dX4_init_153 : decode cX4_init 153 = .ok (.putfield 73, 3) := by decide +kernel
theorem dX4_init_156 : decode cX4_init 156 = .ok (.aload_n 0, 1) := by decide +kernel
theorem dX4_init_157 : decode cX4_init 157 = .ok (.sipush 1024, 3) := by decide +kernel
theorem dX4_init_160 : decode cX4_init 160 = .ok (.newarray .int, 2) := by decide +kernel
theorem dX4_init_162 : decode cX4_init 162 = .ok (.putfield 76, 3) := by decide +kernel
theorem dX4_init_165 : decode cX4_init 165 = .ok (.aload_n 0, 1) := by decide +kernel
theorem dX4_init_166 : decode cX4_init 166 = .ok (.sipush 1024, 3) := by decide +kernel
theorem dX4_init_169 : decode cX4_init 169 = .ok (.newarray .boolean, 2) := by decide +kernel
theorem dX4_init_171 : decode cX4_init 171 = .ok (.putfield 79, 3) := by decide +kernel
theorem dX4_init_174 : decode cX4_init 174 = .ok (.aload_n 0, 1) := by decide +kernel
theorem dX4_init_175 : decode cX4_init 175 = .ok (.bipush 60, 2) := by decide +kernel
theorem dX4_init_177 : decode cX4_init 177 = .ok (.newarray .int, 2) := by decide +kernel
theorem dX4_init_179 : decode cX4_init 179 = .ok (.putfield 82, 3) := by decide +kernel
theorem dX4_init_182 : decode cX4_init 182 = .ok (.aload_n 0, 1) := by decide +kernel
theorem dX4_init_183 : decode cX4_init 183 = .ok (.bipush 6, 2) := by decide +kernel
theorem dX4_init_185 : decode cX4_init 185 = .ok (.newarray .int, 2) := by decide +kernel
theorem dX4_init_187 : decode cX4_init 187 = .ok (.putfield 85, 3) := by decide +kernel
theorem dX4_init_190 : decode cX4_init 190 = .ok (.return_, 1) := by decide +kernel
theorem dX4_isPiece_0 : decode cX4_isPiece 0 = .ok (.iload_n 1, 1) := by decide +kernel
theorem dX4_isPiece_1 : decode cX4_isPiece 1 = .ok (.ifCond .lt 15, 3) := by decide +kernel
theorem dX4_isPiece_4 : decode cX4_isPiece 4 = .ok (.iload_n 1, 1) := by decide +kernel
theorem dX4_isPiece_5 : decode cX4_isPiece 5 = .ok (.aload_n 0, 1) := by decide +kernel
theorem dX4_isPiece_6 : decode cX4_isPiece 6 = .ok (.getfield 7, 3) := by decide +kernel
theorem dX4_isPiece_9 : decode cX4_isPiece 9 = .ok (.if_icmp .ge 7, 3) := by decide +kernel
theorem dX4_isPiece_12 : decode cX4_isPiece 12 = .ok (.iconst 1, 1) := by decide +kernel
theorem dX4_isPiece_13 : decode cX4_isPiece 13 = .ok (.goto 4, 3) := by decide +kernel
theorem dX4_isPiece_16 : decode cX4_isPiece 16 = .ok (.iconst 0, 1) := by decide +kernel
theorem dX4_isPiece_17 : decode cX4_isPiece 17 = .ok (.ireturn, 1) := by decide +kernel
theorem dX4_isListener_0 : decode cX4_isListener 0 = .ok (.iload_n 1, 1) := by decide +kernel
theorem dX4_isListener_1 : decode cX4_isListener 1 = .ok (.ifCond .lt 15, 3) := by decide +kernel
theorem dX4_isListener_4 : decode cX4_isListener 4 = .ok (.iload_n 1, 1) := by decide +kernel
theorem dX4_isListener_5 : decode cX4_isListener 5 = .ok (.aload_n 0, 1) := by decide +kernel
theorem dX4_isListener_6 : decode cX4_isListener 6 = .ok (.getfield 13, 3) := by decide +kernel
theorem dX4_isListener_9 : decode cX4_isListener 9 = .ok (.if_icmp .ge 7, 3) := by decide +kernel
theorem dX4_isListener_12 : decode cX4_isListener 12 = .ok (.iconst 1, 1) := by decide +kernel
theorem dX4_isListener_13 : decode cX4_isListener 13 = .ok (.goto 4, 3) := by decide +kernel
theorem dX4_isListener_16 : decode cX4_isListener 16 = .ok (.iconst 0, 1) := by decide +kernel
theorem dX4_isListener_17 : decode cX4_isListener 17 = .ok (.ireturn, 1) := by decide +kernel
theorem dX4_isCall_0 : decode cX4_isCall 0 = .ok (.iload_n 1, 1) := by decide +kernel
theorem dX4_isCall_1 : decode cX4_isCall 1 = .ok (.ifCond .lt 15, 3) := by decide +kernel
theorem dX4_isCall_4 : decode cX4_isCall 4 = .ok (.iload_n 1, 1) := by decide +kernel
theorem dX4_isCall_5 : decode cX4_isCall 5 = .ok (.aload_n 0, 1) := by decide +kernel
theorem dX4_isCall_6 : decode cX4_isCall 6 = .ok (.getfield 16, 3) := by decide +kernel
theorem dX4_isCall_9 : decode cX4_isCall 9 = .ok (.if_icmp .ge 7, 3) := by decide +kernel
theorem dX4_isCall_12 : decode cX4_isCall 12 = .ok (.iconst 1, 1) := by decide +kernel
theorem dX4_isCall_13 : decode cX4_isCall 13 = .ok (.goto 4, 3) := by decide +kernel
theorem dX4_isCall_16 : decode cX4_isCall 16 = .ok (.iconst 0, 1) := by decide +kernel
theorem dX4_isCall_17 : decode cX4_isCall 17 = .ok (.ireturn, 1) := by decide +kernel
theorem dX4_isMask_0 : decode cX4_isMask 0 = .ok (.iload_n 1, 1) := by decide +kernel
theorem dX4_isMask_1 : decode cX4_isMask 1 = .ok (.ifCond .le 17, 3) := by decide +kernel
theorem dX4_isMask_4 : decode cX4_isMask 4 = .ok (.iload_n 1, 1) := by decide +kernel
theorem dX4_isMask_5 : decode cX4_isMask 5 = .ok (.iconst 1, 1) := by decide +kernel
theorem dX4_isMask_6 : decode cX4_isMask 6 = .ok (.aload_n 0, 1) := by decide +kernel
theorem dX4_isMask_7 : decode cX4_isMask 7 = .ok (.getfield 7, 3) := by decide +kernel
theorem dX4_isMask_10 : decode cX4_isMask 10 = .ok (.ishl, 1) := by decide +kernel
theorem dX4_isMask_11 : decode cX4_isMask 11 = .ok (.if_icmp .ge 7, 3) := by decide +kernel
theorem dX4_isMask_14 : decode cX4_isMask 14 = .ok (.iconst 1, 1) := by decide +kernel
theorem dX4_isMask_15 : decode cX4_isMask 15 = .ok (.goto 4, 3) := by decide +kernel
theorem dX4_isMask_18 : decode cX4_isMask 18 = .ok (.iconst 0, 1) := by decide +kernel
theorem dX4_isMask_19 : decode cX4_isMask 19 = .ok (.ireturn, 1) := by decide +kernel
theorem dX4_piece_0 : decode cX4_piece 0 = .ok (.aload_n 0, 1) := by decide +kernel
theorem dX4_piece_1 : decode cX4_piece 1 = .ok (.getfield 16, 3) := by decide +kernel
theorem dX4_piece_4 : decode cX4_piece 4 = .ok (.ifCond .le 6, 3) := by decide +kernel
theorem dX4_piece_7 : decode cX4_piece 7 = .ok (.bipush (-5), 2) := by decide +kernel
theorem dX4_piece_9 : decode cX4_piece 9 = .ok (.ireturn, 1) := by decide +kernel
theorem dX4_piece_10 : decode cX4_piece 10 = .ok (.aload_n 0, 1) := by decide +kernel
theorem dX4_piece_11 : decode cX4_piece 11 = .ok (.getfield 7, 3) := by decide +kernel
theorem dX4_piece_14 : decode cX4_piece 14 = .ok (.bipush 10, 2) := by decide +kernel
theorem dX4_piece_16 : decode cX4_piece 16 = .ok (.if_icmp .ne 6, 3) := by decide +kernel
theorem dX4_piece_19 : decode cX4_piece 19 = .ok (.bipush (-4), 2) := by decide +kernel
theorem dX4_piece_21 : decode cX4_piece 21 = .ok (.ireturn, 1) := by decide +kernel
theorem dX4_piece_22 : decode cX4_piece 22 = .ok (.aload_n 0, 1) := by decide +kernel
theorem dX4_piece_23 : decode cX4_piece 23 = .ok (.getfield 19, 3) := by decide +kernel
theorem dX4_piece_26 : decode cX4_piece 26 = .ok (.aload_n 0, 1) := by decide +kernel
theorem dX4_piece_27 : decode cX4_piece 27 = .ok (.getfield 7, 3) := by decide +kernel
theorem dX4_piece_30 : decode cX4_piece 30 = .ok (.lload_n 1, 1) := by decide +kernel
theorem dX4_piece_31 : decode cX4_piece 31 = .ok (.lastore, 1) := by decide +kernel
theorem dX4_piece_32 : decode cX4_piece 32 = .ok (.aload_n 0, 1) := by decide +kernel
theorem dX4_piece_33 : decode cX4_piece 33 = .ok (.dup, 1) := by decide +kernel
theorem dX4_piece_34 : decode cX4_piece 34 = .ok (.getfield 7, 3) := by decide +kernel
theorem dX4_piece_37 : decode cX4_piece 37 = .ok (.iconst 1, 1) := by decide +kernel
theorem dX4_piece_38 : decode cX4_piece 38 = .ok (.iadd, 1) := by decide +kernel
theorem dX4_piece_39 : decode cX4_piece 39 = .ok (.putfield 7, 3) := by decide +kernel
theorem dX4_piece_42 : decode cX4_piece 42 = .ok (.aload_n 0, 1) := by decide +kernel
theorem dX4_piece_43 : decode cX4_piece 43 = .ok (.getfield 7, 3) := by decide +kernel
theorem dX4_piece_46 : decode cX4_piece 46 = .ok (.iconst 1, 1) := by decide +kernel
theorem dX4_piece_47 : decode cX4_piece 47 = .ok (.isub, 1) := by decide +kernel
theorem dX4_piece_48 : decode cX4_piece 48 = .ok (.ireturn, 1) := by decide +kernel
theorem dX4_bytes_0 : decode cX4_bytes 0 = .ok (.aload_n 0, 1) := by decide +kernel
theorem dX4_bytes_1 : decode cX4_bytes 1 = .ok (.iload_n 1, 1) := by decide +kernel
theorem dX4_bytes_2 : decode cX4_bytes 2 = .ok (.invokevirtual 88, 3) := by decide +kernel
theorem dX4_bytes_5 : decode cX4_bytes 5 = .ok (.ifCond .eq 12, 3) := by decide +kernel
theorem dX4_bytes_8 : decode cX4_bytes 8 = .ok (.aload_n 0, 1) := by decide +kernel
theorem dX4_bytes_9 : decode cX4_bytes 9 = .ok (.getfield 19, 3) := by decide +kernel
theorem dX4_bytes_12 : decode cX4_bytes 12 = .ok (.iload_n 1, 1) := by decide +kernel
theorem dX4_bytes_13 : decode cX4_bytes 13 = .ok (.laload, 1) := by decide +kernel
theorem dX4_bytes_14 : decode cX4_bytes 14 = .ok (.goto 4, 3) := by decide +kernel
theorem dX4_bytes_17 : decode cX4_bytes 17 = .ok (.lconst 0, 1) := by decide +kernel
theorem dX4_bytes_18 : decode cX4_bytes 18 = .ok (.lreturn, 1) := by decide +kernel
theorem dX4_listener_0 : decode cX4_listener 0 = .ok (.iload_n 1, 1) := by decide +kernel
theorem dX4_listener_1 : decode cX4_listener 1 = .ok (.ifCond .lt 8, 3) := by decide +kernel
theorem dX4_listener_4 : decode cX4_listener 4 = .ok (.iload_n 1, 1) := by decide +kernel
theorem dX4_listener_5 : decode cX4_listener 5 = .ok (.iconst 4, 1) := by decide +kernel
theorem dX4_listener_6 : decode cX4_listener 6 = .ok (.if_icmp .le 6, 3) := by decide +kernel
theorem dX4_listener_9 : decode cX4_listener 9 = .ok (.bipush (-2), 2) := by decide +kernel
theorem dX4_listener_11 : decode cX4_listener 11 = .ok (.ireturn, 1) := by decide +kernel
theorem dX4_listener_12 : decode cX4_listener 12 = .ok (.aload_n 0, 1) := by decide +kernel
theorem dX4_listener_13 : decode cX4_listener 13 = .ok (.getfield 13, 3) := by decide +kernel
theorem dX4_listener_16 : decode cX4_listener 16 = .ok (.bipush 10, 2) := by decide +kernel
theorem dX4_listener_18 : decode cX4_listener 18 = .ok (.if_icmp .ne 6, 3) := by decide +kernel
theorem dX4_listener_21 : decode cX4_listener 21 = .ok (.bipush (-4), 2) := by decide +kernel
theorem dX4_listener_23 : decode cX4_listener 23 = .ok (.ireturn, 1) := by decide +kernel
theorem dX4_listener_24 : decode cX4_listener 24 = .ok (.aload_n 0, 1) := by decide +kernel
theorem dX4_listener_25 : decode cX4_listener 25 = .ok (.getfield 23, 3) := by decide +kernel
theorem dX4_listener_28 : decode cX4_listener 28 = .ok (.aload_n 0, 1) := by decide +kernel
theorem dX4_listener_29 : decode cX4_listener 29 = .ok (.getfield 13, 3) := by decide +kernel
theorem dX4_listener_32 : decode cX4_listener 32 = .ok (.iload_n 1, 1) := by decide +kernel
theorem dX4_listener_33 : decode cX4_listener 33 = .ok (.iastore, 1) := by decide +kernel
theorem dX4_listener_34 : decode cX4_listener 34 = .ok (.aload_n 0, 1) := by decide +kernel
theorem dX4_listener_35 : decode cX4_listener 35 = .ok (.dup, 1) := by decide +kernel
theorem dX4_listener_36 : decode cX4_listener 36 = .ok (.getfield 13, 3) := by decide +kernel
theorem dX4_listener_39 : decode cX4_listener 39 = .ok (.iconst 1, 1) := by decide +kernel
theorem dX4_listener_40 : decode cX4_listener 40 = .ok (.iadd, 1) := by decide +kernel
theorem dX4_listener_41 : decode cX4_listener 41 = .ok (.putfield 13, 3) := by decide +kernel
theorem dX4_listener_44 : decode cX4_listener 44 = .ok (.aload_n 0, 1) := by decide +kernel
theorem dX4_listener_45 : decode cX4_listener 45 = .ok (.getfield 13, 3) := by decide +kernel
theorem dX4_listener_48 : decode cX4_listener 48 = .ok (.iconst 1, 1) := by decide +kernel
theorem dX4_listener_49 : decode cX4_listener 49 = .ok (.isub, 1) := by decide +kernel
theorem dX4_listener_50 : decode cX4_listener 50 = .ok (.ireturn, 1) := by decide +kernel
theorem dX4_wants_0 : decode cX4_wants 0 = .ok (.aload_n 0, 1) := by decide +kernel
theorem dX4_wants_1 : decode cX4_wants 1 = .ok (.iload_n 1, 1) := by decide +kernel
theorem dX4_wants_2 : decode cX4_wants 2 = .ok (.invokevirtual 92, 3) := by decide +kernel
theorem dX4_wants_5 : decode cX4_wants 5 = .ok (.ifCond .eq 11, 3) := by decide +kernel
theorem dX4_wants_8 : decode cX4_wants 8 = .ok (.aload_n 0, 1) := by decide +kernel
theorem dX4_wants_9 : decode cX4_wants 9 = .ok (.iload_n 2, 1) := by decide +kernel
theorem dX4_wants_10 : decode cX4_wants 10 = .ok (.invokevirtual 88, 3) := by decide +kernel
theorem dX4_wants_13 : decode cX4_wants 13 = .ok (.ifCond .ne 5, 3) := by decide +kernel
theorem dX4_wants_16 : decode cX4_wants 16 = .ok (.iconst (-1), 1) := by decide +kernel
theorem dX4_wants_17 : decode cX4_wants 17 = .ok (.ireturn, 1) := by decide +kernel
theorem dX4_wants_18 : decode cX4_wants 18 = .ok (.aload_n 0, 1) := by decide +kernel
theorem dX4_wants_19 : decode cX4_wants 19 = .ok (.getfield 23, 3) := by decide +kernel
theorem dX4_wants_22 : decode cX4_wants 22 = .ok (.iload_n 1, 1) := by decide +kernel
theorem dX4_wants_23 : decode cX4_wants 23 = .ok (.iaload, 1) := by decide +kernel
theorem dX4_wants_24 : decode cX4_wants 24 = .ok (.iconst 2, 1) := by decide +kernel
theorem dX4_wants_25 : decode cX4_wants 25 = .ok (.if_icmp .ne 6, 3) := by decide +kernel
theorem dX4_wants_28 : decode cX4_wants 28 = .ok (.bipush (-3), 2) := by decide +kernel
theorem dX4_wants_30 : decode cX4_wants 30 = .ok (.ireturn, 1) := by decide +kernel
theorem dX4_wants_31 : decode cX4_wants 31 = .ok (.aload_n 0, 1) := by decide +kernel
theorem dX4_wants_32 : decode cX4_wants 32 = .ok (.getfield 27, 3) := by decide +kernel
theorem dX4_wants_35 : decode cX4_wants 35 = .ok (.iload_n 1, 1) := by decide +kernel
theorem dX4_wants_36 : decode cX4_wants 36 = .ok (.iaload, 1) := by decide +kernel
theorem dX4_wants_37 : decode cX4_wants 37 = .ok (.iload_n 2, 1) := by decide +kernel
theorem dX4_wants_38 : decode cX4_wants 38 = .ok (.ishr, 1) := by decide +kernel
theorem dX4_wants_39 : decode cX4_wants 39 = .ok (.iconst 1, 1) := by decide +kernel
theorem dX4_wants_40 : decode cX4_wants 40 = .ok (.iand, 1) := by decide +kernel
theorem dX4_wants_41 : decode cX4_wants 41 = .ok (.iconst 1, 1) := by decide +kernel
theorem dX4_wants_42 : decode cX4_wants 42 = .ok (.if_icmp .ne 5, 3) := by decide +kernel
theorem dX4_wants_45 : decode cX4_wants 45 = .ok (.iconst 0, 1) := by decide +kernel
theorem dX4_wants_46 : decode cX4_wants 46 = .ok (.ireturn, 1) := by decide +kernel
theorem dX4_wants_47 : decode cX4_wants 47 = .ok (.aload_n 0, 1) := by decide +kernel
theorem dX4_wants_48 : decode cX4_wants 48 = .ok (.getfield 23, 3) := by decide +kernel
theorem dX4_wants_51 : decode cX4_wants 51 = .ok (.iload_n 1, 1) := by decide +kernel
theorem dX4_wants_52 : decode cX4_wants 52 = .ok (.iaload, 1) := by decide +kernel
theorem dX4_wants_53 : decode cX4_wants 53 = .ok (.ifCond .ne 15, 3) := by decide +kernel
theorem dX4_wants_56 : decode cX4_wants 56 = .ok (.aload_n 0, 1) := by decide +kernel
theorem dX4_wants_57 : decode cX4_wants 57 = .ok (.getfield 27, 3) := by decide +kernel
theorem dX4_wants_60 : decode cX4_wants 60 = .ok (.iload_n 1, 1) := by decide +kernel
theorem dX4_wants_61 : decode cX4_wants 61 = .ok (.iaload, 1) := by decide +kernel
theorem dX4_wants_62 : decode cX4_wants 62 = .ok (.ifCond .eq 6, 3) := by decide +kernel
theorem dX4_wants_65 : decode cX4_wants 65 = .ok (.bipush (-4), 2) := by decide +kernel
theorem dX4_wants_67 : decode cX4_wants 67 = .ok (.ireturn, 1) := by decide +kernel
theorem dX4_wants_68 : decode cX4_wants 68 = .ok (.aload_n 0, 1) := by decide +kernel
theorem dX4_wants_69 : decode cX4_wants 69 = .ok (.getfield 27, 3) := by decide +kernel
theorem dX4_wants_72 : decode cX4_wants 72 = .ok (.iload_n 1, 1) := by decide +kernel
theorem dX4_wants_73 : decode cX4_wants 73 = .ok (.dup2, 1) := by decide +kernel
theorem dX4_wants_74 : decode cX4_wants 74 = .ok (.iaload, 1) := by decide +kernel
theorem dX4_wants_75 : decode cX4_wants 75 = .ok (.iconst 1, 1) := by decide +kernel
theorem dX4_wants_76 : decode cX4_wants 76 = .ok (.iload_n 2, 1) := by decide +kernel
theorem dX4_wants_77 : decode cX4_wants 77 = .ok (.ishl, 1) := by decide +kernel
theorem dX4_wants_78 : decode cX4_wants 78 = .ok (.ior, 1) := by decide +kernel
theorem dX4_wants_79 : decode cX4_wants 79 = .ok (.iastore, 1) := by decide +kernel
theorem dX4_wants_80 : decode cX4_wants 80 = .ok (.iconst 1, 1) := by decide +kernel
theorem dX4_wants_81 : decode cX4_wants 81 = .ok (.ireturn, 1) := by decide +kernel
theorem dX4_isSingle_0 : decode cX4_isSingle 0 = .ok (.iload_n 1, 1) := by decide +kernel
theorem dX4_isSingle_1 : decode cX4_isSingle 1 = .ok (.iload_n 1, 1) := by decide +kernel
theorem dX4_isSingle_2 : decode cX4_isSingle 2 = .ok (.iconst 1, 1) := by decide +kernel
theorem dX4_isSingle_3 : decode cX4_isSingle 3 = .ok (.isub, 1) := by decide +kernel
theorem dX4_isSingle_4 : decode cX4_isSingle 4 = .ok (.iand, 1) := by decide +kernel
theorem dX4_isSingle_5 : decode cX4_isSingle 5 = .ok (.ifCond .ne 7, 3) := by decide +kernel
theorem dX4_isSingle_8 : decode cX4_isSingle 8 = .ok (.iconst 1, 1) := by decide +kernel
theorem dX4_isSingle_9 : decode cX4_isSingle 9 = .ok (.goto 4, 3) := by decide +kernel
theorem dX4_isSingle_12 : decode cX4_isSingle 12 = .ok (.iconst 0, 1) := by decide +kernel
theorem dX4_isSingle_13 : decode cX4_isSingle 13 = .ok (.ireturn, 1) := by decide +kernel
theorem dX4_holds_0 : decode cX4_holds 0 = .ok (.iconst 0, 1) := by decide +kernel
theorem dX4_holds_1 : decode cX4_holds 1 = .ok (.istore_n 3, 1) := by decide +kernel
theorem dX4_holds_2 : decode cX4_holds 2 = .ok (.iload_n 3, 1) := by decide +kernel
theorem dX4_holds_3 : decode cX4_holds 3 = .ok (.aload_n 0, 1) := by decide +kernel
theorem dX4_holds_4 : decode cX4_holds 4 = .ok (.getfield 30, 3) := by decide +kernel
theorem dX4_holds_7 : decode cX4_holds 7 = .ok (.iload_n 1, 1) := by decide +kernel
theorem dX4_holds_8 : decode cX4_holds 8 = .ok (.iaload, 1) := by decide +kernel
theorem dX4_holds_9 : decode cX4_holds 9 = .ok (.if_icmp .ge 26, 3) := by decide +kernel
theorem dX4_holds_12 : decode cX4_holds 12 = .ok (.aload_n 0, 1) := by decide +kernel
theorem dX4_holds_13 : decode cX4_holds 13 = .ok (.getfield 33, 3) := by decide +kernel
theorem dX4_holds_16 : decode cX4_holds 16 = .ok (.bipush 12, 2) := by decide +kernel
theorem dX4_holds_18 : decode cX4_holds 18 = .ok (.iload_n 1, 1) := by decide +kernel
theorem dX4_holds_19 : decode cX4_holds 19 = .ok (.imul, 1) := by decide +kernel
theorem dX4_holds_20 : decode cX4_holds 20 = .ok (.iload_n 3, 1) := by decide +kernel
theorem dX4_holds_21 : decode cX4_holds 21 = .ok (.iadd, 1) := by decide +kernel
theorem dX4_holds_22 : decode cX4_holds 22 = .ok (.iaload, 1) := by decide +kernel
theorem dX4_holds_23 : decode cX4_holds 23 = .ok (.iload_n 2, 1) := by decide +kernel
theorem dX4_holds_24 : decode cX4_holds 24 = .ok (.if_icmp .ne 5, 3) := by decide +kernel
theorem dX4_holds_27 : decode cX4_holds 27 = .ok (.iconst 1, 1) := by decide +kernel
theorem dX4_holds_28 : decode cX4_holds 28 = .ok (.ireturn, 1) := by decide +kernel
theorem dX4_holds_29 : decode cX4_holds 29 = .ok (.iinc 3 1, 3) := by decide +kernel
theorem dX4_holds_32 : decode cX4_holds 32 = .ok (.goto (-30), 3) := by decide +kernel
theorem dX4_holds_35 : decode cX4_holds 35 = .ok (.iconst 0, 1) := by decide +kernel
theorem dX4_holds_36 : decode cX4_holds 36 = .ok (.ireturn, 1) := by decide +kernel
theorem dX4_has_0 : decode cX4_has 0 = .ok (.aload_n 0, 1) := by decide +kernel
theorem dX4_has_1 : decode cX4_has 1 = .ok (.iload_n 1, 1) := by decide +kernel
theorem dX4_has_2 : decode cX4_has 2 = .ok (.invokevirtual 92, 3) := by decide +kernel
theorem dX4_has_5 : decode cX4_has 5 = .ok (.ifCond .ne 5, 3) := by decide +kernel
theorem dX4_has_8 : decode cX4_has 8 = .ok (.iconst (-1), 1) := by decide +kernel
theorem dX4_has_9 : decode cX4_has 9 = .ok (.ireturn, 1) := by decide +kernel
theorem dX4_has_10 : decode cX4_has 10 = .ok (.aload_n 0, 1) := by decide +kernel
theorem dX4_has_11 : decode cX4_has 11 = .ok (.iload_n 2, 1) := by decide +kernel
theorem dX4_has_12 : decode cX4_has 12 = .ok (.invokevirtual 95, 3) := by decide +kernel
theorem dX4_has_15 : decode cX4_has 15 = .ok (.ifCond .eq 30, 3) := by decide +kernel
theorem dX4_has_18 : decode cX4_has 18 = .ok (.aload_n 0, 1) := by decide +kernel
theorem dX4_has_19 : decode cX4_has 19 = .ok (.getfield 23, 3) := by decide +kernel
theorem dX4_has_22 : decode cX4_has 22 = .ok (.iload_n 1, 1) := by decide +kernel
theorem dX4_has_23 : decode cX4_has 23 = .ok (.iaload, 1) := by decide +kernel
theorem dX4_has_24 : decode cX4_has 24 = .ok (.iconst 3, 1) := by decide +kernel
theorem dX4_has_25 : decode cX4_has 25 = .ok (.if_icmp .eq 11, 3) := by decide +kernel
theorem dX4_has_28 : decode cX4_has 28 = .ok (.aload_n 0, 1) := by decide +kernel
theorem dX4_has_29 : decode cX4_has 29 = .ok (.iload_n 2, 1) := by decide +kernel
theorem dX4_has_30 : decode cX4_has 30 = .ok (.invokevirtual 98, 3) := by decide +kernel
theorem dX4_has_33 : decode cX4_has 33 = .ok (.ifCond .eq 12, 3) := by decide +kernel
theorem dX4_has_36 : decode cX4_has 36 = .ok (.aload_n 0, 1) := by decide +kernel
theorem dX4_has_37 : decode cX4_has 37 = .ok (.iload_n 1, 1) := by decide +kernel
theorem dX4_has_38 : decode cX4_has 38 = .ok (.iload_n 2, 1) := by decide +kernel
theorem dX4_has_39 : decode cX4_has 39 = .ok (.invokevirtual 101, 3) := by decide +kernel
theorem dX4_has_42 : decode cX4_has 42 = .ok (.ifCond .eq 6, 3) := by decide +kernel
theorem dX4_has_45 : decode cX4_has 45 = .ok (.bipush (-2), 2) := by decide +kernel
theorem dX4_has_47 : decode cX4_has 47 = .ok (.ireturn, 1) := by decide +kernel
theorem dX4_has_48 : decode cX4_has 48 = .ok (.aload_n 0, 1) := by decide +kernel
theorem dX4_has_49 : decode cX4_has 49 = .ok (.getfield 16, 3) := by decide +kernel
theorem dX4_has_52 : decode cX4_has 52 = .ok (.ifCond .le 6, 3) := by decide +kernel
theorem dX4_has_55 : decode cX4_has 55 = .ok (.bipush (-5), 2) := by decide +kernel
theorem dX4_has_57 : decode cX4_has 57 = .ok (.ireturn, 1) := by decide +kernel
theorem dX4_has_58 : decode cX4_has 58 = .ok (.aload_n 0, 1) := by decide +kernel
theorem dX4_has_59 : decode cX4_has 59 = .ok (.getfield 30, 3) := by decide +kernel
theorem dX4_has_62 : decode cX4_has 62 = .ok (.iload_n 1, 1) := by decide +kernel
theorem dX4_has_63 : decode cX4_has 63 = .ok (.iaload, 1) := by decide +kernel
theorem dX4_has_64 : decode cX4_has 64 = .ok (.bipush 12, 2) := by decide +kernel
theorem dX4_has_66 : decode cX4_has 66 = .ok (.if_icmp .ne 6, 3) := by decide +kernel
theorem dX4_has_69 : decode cX4_has 69 = .ok (.bipush (-4), 2) := by decide +kernel
theorem dX4_has_71 : decode cX4_has 71 = .ok (.ireturn, 1) := by decide +kernel
theorem dX4_has_72 : decode cX4_has 72 = .ok (.aload_n 0, 1) := by decide +kernel
theorem dX4_has_73 : decode cX4_has 73 = .ok (.getfield 33, 3) := by decide +kernel
theorem dX4_has_76 : decode cX4_has 76 = .ok (.bipush 12, 2) := by decide +kernel
theorem dX4_has_78 : decode cX4_has 78 = .ok (.iload_n 1, 1) := by decide +kernel
theorem dX4_has_79 : decode cX4_has 79 = .ok (.imul, 1) := by decide +kernel
theorem dX4_has_80 : decode cX4_has 80 = .ok (.aload_n 0, 1) := by decide +kernel
theorem dX4_has_81 : decode cX4_has 81 = .ok (.getfield 30, 3) := by decide +kernel
theorem dX4_has_84 : decode cX4_has 84 = .ok (.iload_n 1, 1) := by decide +kernel
theorem dX4_has_85 : decode cX4_has 85 = .ok (.iaload, 1) := by decide +kernel
theorem dX4_has_86 : decode cX4_has 86 = .ok (.iadd, 1) := by decide +kernel
theorem dX4_has_87 : decode cX4_has 87 = .ok (.iload_n 2, 1) := by decide +kernel
theorem dX4_has_88 : decode cX4_has 88 = .ok (.iastore, 1) := by decide +kernel
theorem dX4_has_89 : decode cX4_has 89 = .ok (.aload_n 0, 1) := by decide +kernel
theorem dX4_has_90 : decode cX4_has 90 = .ok (.getfield 30, 3) := by decide +kernel
theorem dX4_has_93 : decode cX4_has 93 = .ok (.iload_n 1, 1) := by decide +kernel
theorem dX4_has_94 : decode cX4_has 94 = .ok (.dup2, 1) := by decide +kernel
theorem dX4_has_95 : decode cX4_has 95 = .ok (.iaload, 1) := by decide +kernel
theorem dX4_has_96 : decode cX4_has 96 = .ok (.iconst 1, 1) := by decide +kernel
theorem dX4_has_97 : decode cX4_has 97 = .ok (.iadd, 1) := by decide +kernel
theorem dX4_has_98 : decode cX4_has 98 = .ok (.iastore, 1) := by decide +kernel
theorem dX4_has_99 : decode cX4_has 99 = .ok (.aload_n 0, 1) := by decide +kernel
theorem dX4_has_100 : decode cX4_has 100 = .ok (.getfield 30, 3) := by decide +kernel
theorem dX4_has_103 : decode cX4_has 103 = .ok (.iload_n 1, 1) := by decide +kernel
theorem dX4_has_104 : decode cX4_has 104 = .ok (.iaload, 1) := by decide +kernel
theorem dX4_has_105 : decode cX4_has 105 = .ok (.ireturn, 1) := by decide +kernel
theorem dX4_off_0 : decode cX4_off 0 = .ok (.aload_n 0, 1) := by decide +kernel
theorem dX4_off_1 : decode cX4_off 1 = .ok (.iload_n 1, 1) := by decide +kernel
theorem dX4_off_2 : decode cX4_off 2 = .ok (.invokevirtual 92, 3) := by decide +kernel
theorem dX4_off_5 : decode cX4_off 5 = .ok (.ifCond .ne 5, 3) := by decide +kernel
theorem dX4_off_8 : decode cX4_off 8 = .ok (.iconst (-1), 1) := by decide +kernel
theorem dX4_off_9 : decode cX4_off 9 = .ok (.ireturn, 1) := by decide +kernel
theorem dX4_off_10 : decode cX4_off 10 = .ok (.aload_n 0, 1) := by decide +kernel
theorem dX4_off_11 : decode cX4_off 11 = .ok (.getfield 23, 3) := by decide +kernel
theorem dX4_off_14 : decode cX4_off 14 = .ok (.iload_n 1, 1) := by decide +kernel
theorem dX4_off_15 : decode cX4_off 15 = .ok (.iaload, 1) := by decide +kernel
theorem dX4_off_16 : decode cX4_off 16 = .ok (.iconst 4, 1) := by decide +kernel
theorem dX4_off_17 : decode cX4_off 17 = .ok (.if_icmp .eq 6, 3) := by decide +kernel
theorem dX4_off_20 : decode cX4_off 20 = .ok (.bipush (-3), 2) := by decide +kernel
theorem dX4_off_22 : decode cX4_off 22 = .ok (.ireturn, 1) := by decide +kernel
theorem dX4_off_23 : decode cX4_off 23 = .ok (.iload_n 2, 1) := by decide +kernel
theorem dX4_off_24 : decode cX4_off 24 = .ok (.ifCond .lt 8, 3) := by decide +kernel
theorem dX4_off_27 : decode cX4_off 27 = .ok (.iload_n 2, 1) := by decide +kernel
theorem dX4_off_28 : decode cX4_off 28 = .ok (.iconst 1, 1) := by decide +kernel
theorem dX4_off_29 : decode cX4_off 29 = .ok (.if_icmp .le 6, 3) := by decide +kernel
theorem dX4_off_32 : decode cX4_off 32 = .ok (.bipush (-2), 2) := by decide +kernel
theorem dX4_off_34 : decode cX4_off 34 = .ok (.ireturn, 1) := by decide +kernel
theorem dX4_off_35 : decode cX4_off 35 = .ok (.aload_n 0, 1) := by decide +kernel
theorem dX4_off_36 : decode cX4_off 36 = .ok (.getfield 36, 3) := by decide +kernel
theorem dX4_off_39 : decode cX4_off 39 = .ok (.iload_n 1, 1) := by decide +kernel
theorem dX4_off_40 : decode cX4_off 40 = .ok (.baload, 1) := by decide +kernel
theorem dX4_off_41 : decode cX4_off 41 = .ok (.ifCond .eq 7, 3) := by decide +kernel
theorem dX4_off_44 : decode cX4_off 44 = .ok (.iconst 1, 1) := by decide +kernel
theorem dX4_off_45 : decode cX4_off 45 = .ok (.goto 4, 3) := by decide +kernel
theorem dX4_off_48 : decode cX4_off 48 = .ok (.iconst 0, 1) := by decide +kernel
theorem dX4_off_49 : decode cX4_off 49 = .ok (.istore_n 3, 1) := by decide +kernel
theorem dX4_off_50 : decode cX4_off 50 = .ok (.aload_n 0, 1) := by decide +kernel
theorem dX4_off_51 : decode cX4_off 51 = .ok (.getfield 36, 3) := by decide +kernel
theorem dX4_off_54 : decode cX4_off 54 = .ok (.iload_n 1, 1) := by decide +kernel
theorem dX4_off_55 : decode cX4_off 55 = .ok (.iload_n 2, 1) := by decide +kernel
theorem dX4_off_56 : decode cX4_off 56 = .ok (.iconst 1, 1) := by decide +kernel
theorem dX4_off_57 : decode cX4_off 57 = .ok (.if_icmp .ne 7, 3) := by decide +kernel
theorem dX4_off_60 : decode cX4_off 60 = .ok (.iconst 1, 1) := by decide +kernel
theorem dX4_off_61 : decode cX4_off 61 = .ok (.goto 4, 3) := by decide +kernel
theorem dX4_off_64 : decode cX4_off 64 = .ok (.iconst 0, 1) := by decide +kernel
theorem dX4_off_65 : decode cX4_off 65 = .ok (.bastore, 1) := by decide +kernel
theorem dX4_off_66 : decode cX4_off 66 = .ok (.iload_n 3, 1) := by decide +kernel
theorem dX4_off_67 : decode cX4_off 67 = .ok (.ireturn, 1) := by decide +kernel
theorem dX4_said_0 : decode cX4_said 0 = .ok (.aload_n 0, 1) := by decide +kernel
theorem dX4_said_1 : decode cX4_said 1 = .ok (.getfield 40, 3) := by decide +kernel
theorem dX4_said_4 : decode cX4_said 4 = .ok (.aload_n 0, 1) := by decide +kernel
theorem dX4_said_5 : decode cX4_said 5 = .ok (.getfield 16, 3) := by decide +kernel
theorem dX4_said_8 : decode cX4_said 8 = .ok (.iload_n 1, 1) := by decide +kernel
theorem dX4_said_9 : decode cX4_said 9 = .ok (.iastore, 1) := by decide +kernel
theorem dX4_said_10 : decode cX4_said 10 = .ok (.aload_n 0, 1) := by decide +kernel
theorem dX4_said_11 : decode cX4_said 11 = .ok (.getfield 43, 3) := by decide +kernel
theorem dX4_said_14 : decode cX4_said 14 = .ok (.aload_n 0, 1) := by decide +kernel
theorem dX4_said_15 : decode cX4_said 15 = .ok (.getfield 16, 3) := by decide +kernel
theorem dX4_said_18 : decode cX4_said 18 = .ok (.iconst 0, 1) := by decide +kernel
theorem dX4_said_19 : decode cX4_said 19 = .ok (.iastore, 1) := by decide +kernel
theorem dX4_said_20 : decode cX4_said 20 = .ok (.iconst 0, 1) := by decide +kernel
theorem dX4_said_21 : decode cX4_said 21 = .ok (.istore_n 2, 1) := by decide +kernel
theorem dX4_said_22 : decode cX4_said 22 = .ok (.iload_n 2, 1) := by decide +kernel
theorem dX4_said_23 : decode cX4_said 23 = .ok (.aload_n 0, 1) := by decide +kernel
theorem dX4_said_24 : decode cX4_said 24 = .ok (.getfield 13, 3) := by decide +kernel
theorem dX4_said_27 : decode cX4_said 27 = .ok (.if_icmp .ge 33, 3) := by decide +kernel
theorem dX4_said_30 : decode cX4_said 30 = .ok (.aload_n 0, 1) := by decide +kernel
theorem dX4_said_31 : decode cX4_said 31 = .ok (.getfield 36, 3) := by decide +kernel
theorem dX4_said_34 : decode cX4_said 34 = .ok (.iload_n 2, 1) := by decide +kernel
theorem dX4_said_35 : decode cX4_said 35 = .ok (.baload, 1) := by decide +kernel
theorem dX4_said_36 : decode cX4_said 36 = .ok (.ifCond .ne 18, 3) := by decide +kernel
theorem dX4_said_39 : decode cX4_said 39 = .ok (.aload_n 0, 1) := by decide +kernel
theorem dX4_said_40 : decode cX4_said 40 = .ok (.getfield 43, 3) := by decide +kernel
theorem dX4_said_43 : decode cX4_said 43 = .ok (.aload_n 0, 1) := by decide +kernel
theorem dX4_said_44 : decode cX4_said 44 = .ok (.getfield 16, 3) := by decide +kernel
theorem dX4_said_47 : decode cX4_said 47 = .ok (.dup2, 1) := by decide +kernel
theorem dX4_said_48 : decode cX4_said 48 = .ok (.iaload, 1) := by decide +kernel
theorem dX4_said_49 : decode cX4_said 49 = .ok (.iconst 1, 1) := by decide +kernel
theorem dX4_said_50 : decode cX4_said 50 = .ok (.iload_n 2, 1) := by decide +kernel
theorem dX4_said_51 : decode cX4_said 51 = .ok (.ishl, 1) := by decide +kernel
theorem dX4_said_52 : decode cX4_said 52 = .ok (.ior, 1) := by decide +kernel
theorem dX4_said_53 : decode cX4_said 53 = .ok (.iastore, 1) := by decide +kernel
theorem dX4_said_54 : decode cX4_said 54 = .ok (.iinc 2 1, 3) := by decide +kernel
theorem dX4_said_57 : decode cX4_said 57 = .ok (.goto (-35), 3) := by decide +kernel
theorem dX4_said_60 : decode cX4_said 60 = .ok (.aload_n 0, 1) := by decide +kernel
theorem dX4_said_61 : decode cX4_said 61 = .ok (.dup, 1) := by decide +kernel
theorem dX4_said_62 : decode cX4_said 62 = .ok (.getfield 16, 3) := by decide +kernel
theorem dX4_said_65 : decode cX4_said 65 = .ok (.iconst 1, 1) := by decide +kernel
theorem dX4_said_66 : decode cX4_said 66 = .ok (.iadd, 1) := by decide +kernel
theorem dX4_said_67 : decode cX4_said 67 = .ok (.putfield 16, 3) := by decide +kernel
theorem dX4_said_70 : decode cX4_said 70 = .ok (.aload_n 0, 1) := by decide +kernel
theorem dX4_said_71 : decode cX4_said 71 = .ok (.getfield 16, 3) := by decide +kernel
theorem dX4_said_74 : decode cX4_said 74 = .ok (.iconst 1, 1) := by decide +kernel
theorem dX4_said_75 : decode cX4_said 75 = .ok (.isub, 1) := by decide +kernel
theorem dX4_said_76 : decode cX4_said 76 = .ok (.ireturn, 1) := by decide +kernel
theorem dX4_say_0 : decode cX4_say 0 = .ok (.aload_n 0, 1) := by decide +kernel
theorem dX4_say_1 : decode cX4_say 1 = .ok (.iload_n 1, 1) := by decide +kernel
theorem dX4_say_2 : decode cX4_say 2 = .ok (.invokevirtual 95, 3) := by decide +kernel
theorem dX4_say_5 : decode cX4_say 5 = .ok (.ifCond .ne 6, 3) := by decide +kernel
theorem dX4_say_8 : decode cX4_say 8 = .ok (.bipush (-2), 2) := by decide +kernel
theorem dX4_say_10 : decode cX4_say 10 = .ok (.ireturn, 1) := by decide +kernel
theorem dX4_say_11 : decode cX4_say 11 = .ok (.aload_n 0, 1) := by decide +kernel
theorem dX4_say_12 : decode cX4_say 12 = .ok (.getfield 16, 3) := by decide +kernel
theorem dX4_say_15 : decode cX4_say 15 = .ok (.bipush 40, 2) := by decide +kernel
theorem dX4_say_17 : decode cX4_say 17 = .ok (.if_icmp .ne 8, 3) := by decide +kernel
theorem dX4_say_20 : decode cX4_say 20 = .ok (.bipush (-4), 2) := by decide +kernel
theorem dX4_say_22 : decode cX4_say 22 = .ok (.goto 8, 3) := by decide +kernel
theorem dX4_say_25 : decode cX4_say 25 = .ok (.aload_n 0, 1) := by decide +kernel
theorem dX4_say_26 : decode cX4_say 26 = .ok (.iload_n 1, 1) := by decide +kernel
theorem dX4_say_27 : decode cX4_say 27 = .ok (.invokevirtual 105, 3) := by decide +kernel
theorem dX4_say_30 : decode cX4_say 30 = .ok (.ireturn, 1) := by decide +kernel
theorem dX4_again_0 : decode cX4_again 0 = .ok (.aload_n 0, 1) := by decide +kernel
theorem dX4_again_1 : decode cX4_again 1 = .ok (.iload_n 1, 1) := by decide +kernel
theorem dX4_again_2 : decode cX4_again 2 = .ok (.invokevirtual 109, 3) := by decide +kernel
theorem dX4_again_5 : decode cX4_again 5 = .ok (.ifCond .ne 5, 3) := by decide +kernel
theorem dX4_again_8 : decode cX4_again 8 = .ok (.iconst (-1), 1) := by decide +kernel
theorem dX4_again_9 : decode cX4_again 9 = .ok (.ireturn, 1) := by decide +kernel
theorem dX4_again_10 : decode cX4_again 10 = .ok (.aload_n 0, 1) := by decide +kernel
theorem dX4_again_11 : decode cX4_again 11 = .ok (.getfield 16, 3) := by decide +kernel
theorem dX4_again_14 : decode cX4_again 14 = .ok (.bipush 40, 2) := by decide +kernel
theorem dX4_again_16 : decode cX4_again 16 = .ok (.if_icmp .ne 8, 3) := by decide +kernel
theorem dX4_again_19 : decode cX4_again 19 = .ok (.bipush (-4), 2) := by decide +kernel
theorem dX4_again_21 : decode cX4_again 21 = .ok (.goto 13, 3) := by decide +kernel
theorem dX4_again_24 : decode cX4_again 24 = .ok (.aload_n 0, 1) := by decide +kernel
theorem dX4_again_25 : decode cX4_again 25 = .ok (.aload_n 0, 1) := by decide +kernel
theorem dX4_again_26 : decode cX4_again 26 = .ok (.getfield 40, 3) := by decide +kernel
theorem dX4_again_29 : decode cX4_again 29 = .ok (.iload_n 1, 1) := by decide +kernel
theorem dX4_again_30 : decode cX4_again 30 = .ok (.iaload, 1) := by decide +kernel
theorem dX4_again_31 : decode cX4_again 31 = .ok (.invokevirtual 105, 3) := by decide +kernel
theorem dX4_again_34 : decode cX4_again 34 = .ok (.ireturn, 1) := by decide +kernel
theorem dX4_sum_0 : decode cX4_sum 0 = .ok (.aload_n 0, 1) := by decide +kernel
theorem dX4_sum_1 : decode cX4_sum 1 = .ok (.iload_n 1, 1) := by decide +kernel
theorem dX4_sum_2 : decode cX4_sum 2 = .ok (.invokevirtual 109, 3) := by decide +kernel
theorem dX4_sum_5 : decode cX4_sum 5 = .ok (.ifCond .eq 16, 3) := by decide +kernel
theorem dX4_sum_8 : decode cX4_sum 8 = .ok (.aload_n 0, 1) := by decide +kernel
theorem dX4_sum_9 : decode cX4_sum 9 = .ok (.aload_n 0, 1) := by decide +kernel
theorem dX4_sum_10 : decode cX4_sum 10 = .ok (.getfield 40, 3) := by decide +kernel
theorem dX4_sum_13 : decode cX4_sum 13 = .ok (.iload_n 1, 1) := by decide +kernel
theorem dX4_sum_14 : decode cX4_sum 14 = .ok (.iaload, 1) := by decide +kernel
theorem dX4_sum_15 : decode cX4_sum 15 = .ok (.invokevirtual 112, 3) := by decide +kernel
theorem dX4_sum_18 : decode cX4_sum 18 = .ok (.goto 4, 3) := by decide +kernel
theorem dX4_sum_21 : decode cX4_sum 21 = .ok (.lconst 0, 1) := by decide +kernel
theorem dX4_sum_22 : decode cX4_sum 22 = .ok (.lreturn, 1) := by decide +kernel
theorem dX4_sumOf_0 : decode cX4_sumOf 0 = .ok (.lconst 0, 1) := by decide +kernel
theorem dX4_sumOf_1 : decode cX4_sumOf 1 = .ok (.lstore_n 2, 1) := by decide +kernel
theorem dX4_sumOf_2 : decode cX4_sumOf 2 = .ok (.iconst 0, 1) := by decide +kernel
theorem dX4_sumOf_3 : decode cX4_sumOf 3 = .ok (.istore 4, 2) := by decide +kernel
theorem dX4_sumOf_5 : decode cX4_sumOf 5 = .ok (.iload 4, 2) := by decide +kernel
theorem dX4_sumOf_7 : decode cX4_sumOf 7 = .ok (.aload_n 0, 1) := by decide +kernel
theorem dX4_sumOf_8 : decode cX4_sumOf 8 = .ok (.getfield 7, 3) := by decide +kernel
theorem dX4_sumOf_11 : decode cX4_sumOf 11 = .ok (.if_icmp .ge 29, 3) := by decide +kernel
theorem dX4_sumOf_14 : decode cX4_sumOf 14 = .ok (.iload_n 1, 1) := by decide +kernel
theorem dX4_sumOf_15 : decode cX4_sumOf 15 = .ok (.iload 4, 2) := by decide +kernel
theorem dX4_sumOf_17 : decode cX4_sumOf 17 = .ok (.ishr, 1) := by decide +kernel
theorem dX4_sumOf_18 : decode cX4_sumOf 18 = .ok (.iconst 1, 1) := by decide +kernel
theorem dX4_sumOf_19 : decode cX4_sumOf 19 = .ok (.iand, 1) := by decide +kernel
theorem dX4_sumOf_20 : decode cX4_sumOf 20 = .ok (.iconst 1, 1) := by decide +kernel
theorem dX4_sumOf_21 : decode cX4_sumOf 21 = .ok (.if_icmp .ne 13, 3) := by decide +kernel
theorem dX4_sumOf_24 : decode cX4_sumOf 24 = .ok (.lload_n 2, 1) := by decide +kernel
theorem dX4_sumOf_25 : decode cX4_sumOf 25 = .ok (.aload_n 0, 1) := by decide +kernel
theorem dX4_sumOf_26 : decode cX4_sumOf 26 = .ok (.getfield 19, 3) := by decide +kernel
theorem dX4_sumOf_29 : decode cX4_sumOf 29 = .ok (.iload 4, 2) := by decide +kernel
theorem dX4_sumOf_31 : decode cX4_sumOf 31 = .ok (.laload, 1) := by decide +kernel
theorem dX4_sumOf_32 : decode cX4_sumOf 32 = .ok (.lxor, 1) := by decide +kernel
theorem dX4_sumOf_33 : decode cX4_sumOf 33 = .ok (.lstore_n 2, 1) := by decide +kernel
theorem dX4_sumOf_34 : decode cX4_sumOf 34 = .ok (.iinc 4 1, 3) := by decide +kernel
theorem dX4_sumOf_37 : decode cX4_sumOf 37 = .ok (.goto (-32), 3) := by decide +kernel
theorem dX4_sumOf_40 : decode cX4_sumOf 40 = .ok (.lload_n 2, 1) := by decide +kernel
theorem dX4_sumOf_41 : decode cX4_sumOf 41 = .ok (.lreturn, 1) := by decide +kernel
theorem dX4_heard_0 : decode cX4_heard 0 = .ok (.aload_n 0, 1) := by decide +kernel
theorem dX4_heard_1 : decode cX4_heard 1 = .ok (.iload_n 1, 1) := by decide +kernel
theorem dX4_heard_2 : decode cX4_heard 2 = .ok (.invokevirtual 92, 3) := by decide +kernel
theorem dX4_heard_5 : decode cX4_heard 5 = .ok (.ifCond .eq 11, 3) := by decide +kernel
theorem dX4_heard_8 : decode cX4_heard 8 = .ok (.aload_n 0, 1) := by decide +kernel
theorem dX4_heard_9 : decode cX4_heard 9 = .ok (.iload_n 2, 1) := by decide +kernel
theorem dX4_heard_10 : decode cX4_heard 10 = .ok (.invokevirtual 109, 3) := by decide +kernel
theorem dX4_heard_13 : decode cX4_heard 13 = .ok (.ifCond .ne 7, 3) := by decide +kernel
theorem dX4_heard_16 : decode cX4_heard 16 = .ok (.iconst (-1), 1) := by decide +kernel
theorem dX4_heard_17 : decode cX4_heard 17 = .ok (.goto 13, 3) := by decide +kernel
theorem dX4_heard_20 : decode cX4_heard 20 = .ok (.aload_n 0, 1) := by decide +kernel
theorem dX4_heard_21 : decode cX4_heard 21 = .ok (.getfield 43, 3) := by decide +kernel
theorem dX4_heard_24 : decode cX4_heard 24 = .ok (.iload_n 2, 1) := by decide +kernel
theorem dX4_heard_25 : decode cX4_heard 25 = .ok (.iaload, 1) := by decide +kernel
theorem dX4_heard_26 : decode cX4_heard 26 = .ok (.iload_n 1, 1) := by decide +kernel
theorem dX4_heard_27 : decode cX4_heard 27 = .ok (.ishr, 1) := by decide +kernel
theorem dX4_heard_28 : decode cX4_heard 28 = .ok (.iconst 1, 1) := by decide +kernel
theorem dX4_heard_29 : decode cX4_heard 29 = .ok (.iand, 1) := by decide +kernel
theorem dX4_heard_30 : decode cX4_heard 30 = .ok (.ireturn, 1) := by decide +kernel
theorem dX4_take_0 : decode cX4_take 0 = .ok (.aload_n 0, 1) := by decide +kernel
theorem dX4_take_1 : decode cX4_take 1 = .ok (.getfield 46, 3) := by decide +kernel
theorem dX4_take_4 : decode cX4_take 4 = .ok (.aload_n 0, 1) := by decide +kernel
theorem dX4_take_5 : decode cX4_take 5 = .ok (.getfield 52, 3) := by decide +kernel
theorem dX4_take_8 : decode cX4_take 8 = .ok (.iload_n 2, 1) := by decide +kernel
theorem dX4_take_9 : decode cX4_take 9 = .ok (.iastore, 1) := by decide +kernel
theorem dX4_take_10 : decode cX4_take 10 = .ok (.aload_n 0, 1) := by decide +kernel
theorem dX4_take_11 : decode cX4_take 11 = .ok (.getfield 49, 3) := by decide +kernel
theorem dX4_take_14 : decode cX4_take 14 = .ok (.aload_n 0, 1) := by decide +kernel
theorem dX4_take_15 : decode cX4_take 15 = .ok (.getfield 52, 3) := by decide +kernel
theorem dX4_take_18 : decode cX4_take 18 = .ok (.aload_n 0, 1) := by decide +kernel
theorem dX4_take_19 : decode cX4_take 19 = .ok (.getfield 58, 3) := by decide +kernel
theorem dX4_take_22 : decode cX4_take 22 = .ok (.sipush 1024, 3) := by decide +kernel
theorem dX4_take_25 : decode cX4_take 25 = .ok (.iload_n 1, 1) := by decide +kernel
theorem dX4_take_26 : decode cX4_take 26 = .ok (.imul, 1) := by decide +kernel
theorem dX4_take_27 : decode cX4_take 27 = .ok (.iload_n 2, 1) := by decide +kernel
theorem dX4_take_28 : decode cX4_take 28 = .ok (.iadd, 1) := by decide +kernel
theorem dX4_take_29 : decode cX4_take 29 = .ok (.baload, 1) := by decide +kernel
theorem dX4_take_30 : decode cX4_take 30 = .ok (.ifCond .ne 7, 3) := by decide +kernel
theorem dX4_take_33 : decode cX4_take 33 = .ok (.iconst 1, 1) := by decide +kernel
theorem dX4_take_34 : decode cX4_take 34 = .ok (.goto 4, 3) := by decide +kernel
theorem dX4_take_37 : decode cX4_take 37 = .ok (.iconst 0, 1) := by decide +kernel
theorem dX4_take_38 : decode cX4_take 38 = .ok (.bastore, 1) := by decide +kernel
theorem dX4_take_39 : decode cX4_take 39 = .ok (.aload_n 0, 1) := by decide +kernel
theorem dX4_take_40 : decode cX4_take 40 = .ok (.getfield 49, 3) := by decide +kernel
theorem dX4_take_43 : decode cX4_take 43 = .ok (.aload_n 0, 1) := by decide +kernel
theorem dX4_take_44 : decode cX4_take 44 = .ok (.getfield 52, 3) := by decide +kernel
theorem dX4_take_47 : decode cX4_take 47 = .ok (.baload, 1) := by decide +kernel
theorem dX4_take_48 : decode cX4_take 48 = .ok (.ifCond .eq 85, 3) := by decide +kernel
theorem dX4_take_51 : decode cX4_take 51 = .ok (.aload_n 0, 1) := by decide +kernel
theorem dX4_take_52 : decode cX4_take 52 = .ok (.dup, 1) := by decide +kernel
theorem dX4_take_53 : decode cX4_take 53 = .ok (.getfield 55, 3) := by decide +kernel
theorem dX4_take_56 : decode cX4_take 56 = .ok (.iconst 1, 1) := by decide +kernel
theorem dX4_take_57 : decode cX4_take 57 = .ok (.iadd, 1) := by decide +kernel
theorem dX4_take_58 : decode cX4_take 58 = .ok (.putfield 55, 3) := by decide +kernel
theorem dX4_take_61 : decode cX4_take 61 = .ok (.iconst 0, 1) := by decide +kernel
theorem dX4_take_62 : decode cX4_take 62 = .ok (.istore_n 3, 1) := by decide +kernel
theorem dX4_take_63 : decode cX4_take 63 = .ok (.iload_n 3, 1) := by decide +kernel
theorem dX4_take_64 : decode cX4_take 64 = .ok (.sipush 1024, 3) := by decide +kernel
theorem dX4_take_67 : decode cX4_take 67 = .ok (.if_icmp .ge 27, 3) := by decide +kernel
theorem dX4_take_70 : decode cX4_take 70 = .ok (.aload_n 0, 1) := by decide +kernel
theorem dX4_take_71 : decode cX4_take 71 = .ok (.getfield 61, 3) := by decide +kernel
theorem dX4_take_74 : decode cX4_take 74 = .ok (.iload_n 3, 1) := by decide +kernel
theorem dX4_take_75 : decode cX4_take 75 = .ok (.aload_n 0, 1) := by decide +kernel
theorem dX4_take_76 : decode cX4_take 76 = .ok (.getfield 58, 3) := by decide +kernel
theorem dX4_take_79 : decode cX4_take 79 = .ok (.sipush 1024, 3) := by decide +kernel
theorem dX4_take_82 : decode cX4_take 82 = .ok (.iload_n 1, 1) := by decide +kernel
theorem dX4_take_83 : decode cX4_take 83 = .ok (.imul, 1) := by decide +kernel
theorem dX4_take_84 : decode cX4_take 84 = .ok (.iload_n 3, 1) := by decide +kernel
theorem dX4_take_85 : decode cX4_take 85 = .ok (.iadd, 1) := by decide +kernel
theorem dX4_take_86 : decode cX4_take 86 = .ok (.baload, 1) := by decide +kernel
theorem dX4_take_87 : decode cX4_take 87 = .ok (.bastore, 1) := by decide +kernel
theorem dX4_take_88 : decode cX4_take 88 = .ok (.iinc 3 1, 3) := by decide +kernel
theorem dX4_take_91 : decode cX4_take 91 = .ok (.goto (-28), 3) := by decide +kernel
theorem dX4_take_94 : decode cX4_take 94 = .ok (.iconst 0, 1) := by decide +kernel
theorem dX4_take_95 : decode cX4_take 95 = .ok (.istore_n 3, 1) := by decide +kernel
theorem dX4_take_96 : decode cX4_take 96 = .ok (.iload_n 3, 1) := by decide +kernel
theorem dX4_take_97 : decode cX4_take 97 = .ok (.sipush 1024, 3) := by decide +kernel
theorem dX4_take_100 : decode cX4_take 100 = .ok (.if_icmp .ge 33, 3) := by decide +kernel
theorem dX4_take_103 : decode cX4_take 103 = .ok (.aload_n 0, 1) := by decide +kernel
theorem dX4_take_104 : decode cX4_take 104 = .ok (.getfield 61, 3) := by decide +kernel
theorem dX4_take_107 : decode cX4_take 107 = .ok (.iload_n 3, 1) := by decide +kernel
theorem dX4_take_108 : decode cX4_take 108 = .ok (.baload, 1) := by decide +kernel
theorem dX4_take_109 : decode cX4_take 109 = .ok (.ifCond .eq 18, 3) := by decide +kernel
theorem dX4_take_112 : decode cX4_take 112 = .ok (.aload_n 0, 1) := by decide +kernel
theorem dX4_take_113 : decode cX4_take 113 = .ok (.getfield 58, 3) := by decide +kernel
theorem dX4_take_116 : decode cX4_take 116 = .ok (.sipush 1024, 3) := by decide +kernel
theorem dX4_take_119 : decode cX4_take 119 = .ok (.iload_n 1, 1) := by decide +kernel
theorem dX4_take_120 : decode cX4_take 120 = .ok (.imul, 1) := by decide +kernel
theorem dX4_take_121 : decode cX4_take 121 = .ok (.iload_n 3, 1) := by decide +kernel
theorem dX4_take_122 : decode cX4_take 122 = .ok (.iload_n 2, 1) := by decide +kernel
theorem dX4_take_123 : decode cX4_take 123 = .ok (.ixor, 1) := by decide +kernel
theorem dX4_take_124 : decode cX4_take 124 = .ok (.iadd, 1) := by decide +kernel
theorem dX4_take_125 : decode cX4_take 125 = .ok (.iconst 1, 1) := by decide +kernel
theorem dX4_take_126 : decode cX4_take 126 = .ok (.bastore, 1) := by decide +kernel
theorem dX4_take_127 : decode cX4_take 127 = .ok (.iinc 3 1, 3) := by decide +kernel
theorem dX4_take_130 : decode cX4_take 130 = .ok (.goto (-34), 3) := by decide +kernel
theorem dX4_take_133 : decode cX4_take 133 = .ok (.aload_n 0, 1) := by decide +kernel
theorem dX4_take_134 : decode cX4_take 134 = .ok (.dup, 1) := by decide +kernel
theorem dX4_take_135 : decode cX4_take 135 = .ok (.getfield 52, 3) := by decide +kernel
theorem dX4_take_138 : decode cX4_take 138 = .ok (.iconst 1, 1) := by decide +kernel
theorem dX4_take_139 : decode cX4_take 139 = .ok (.iadd, 1) := by decide +kernel
theorem dX4_take_140 : decode cX4_take 140 = .ok (.putfield 52, 3) := by decide +kernel
theorem dX4_take_143 : decode cX4_take 143 = .ok (.return_, 1) := by decide +kernel
theorem dX4_know_0 : decode cX4_know 0 = .ok (.aload_n 0, 1) := by decide +kernel
theorem dX4_know_1 : decode cX4_know 1 = .ok (.iconst 0, 1) := by decide +kernel
theorem dX4_know_2 : decode cX4_know 2 = .ok (.putfield 52, 3) := by decide +kernel
theorem dX4_know_5 : decode cX4_know 5 = .ok (.aload_n 0, 1) := by decide +kernel
theorem dX4_know_6 : decode cX4_know 6 = .ok (.iconst 0, 1) := by decide +kernel
theorem dX4_know_7 : decode cX4_know 7 = .ok (.putfield 55, 3) := by decide +kernel
theorem dX4_know_10 : decode cX4_know 10 = .ok (.iconst 0, 1) := by decide +kernel
theorem dX4_know_11 : decode cX4_know 11 = .ok (.istore_n 2, 1) := by decide +kernel
theorem dX4_know_12 : decode cX4_know 12 = .ok (.iload_n 2, 1) := by decide +kernel
theorem dX4_know_13 : decode cX4_know 13 = .ok (.sipush 1024, 3) := by decide +kernel
theorem dX4_know_16 : decode cX4_know 16 = .ok (.if_icmp .ge 30, 3) := by decide +kernel
theorem dX4_know_19 : decode cX4_know 19 = .ok (.aload_n 0, 1) := by decide +kernel
theorem dX4_know_20 : decode cX4_know 20 = .ok (.getfield 58, 3) := by decide +kernel
theorem dX4_know_23 : decode cX4_know 23 = .ok (.sipush 1024, 3) := by decide +kernel
theorem dX4_know_26 : decode cX4_know 26 = .ok (.iload_n 1, 1) := by decide +kernel
theorem dX4_know_27 : decode cX4_know 27 = .ok (.imul, 1) := by decide +kernel
theorem dX4_know_28 : decode cX4_know 28 = .ok (.iload_n 2, 1) := by decide +kernel
theorem dX4_know_29 : decode cX4_know 29 = .ok (.iadd, 1) := by decide +kernel
theorem dX4_know_30 : decode cX4_know 30 = .ok (.iload_n 2, 1) := by decide +kernel
theorem dX4_know_31 : decode cX4_know 31 = .ok (.ifCond .ne 7, 3) := by decide +kernel
theorem dX4_know_34 : decode cX4_know 34 = .ok (.iconst 1, 1) := by decide +kernel
theorem dX4_know_35 : decode cX4_know 35 = .ok (.goto 4, 3) := by decide +kernel
theorem dX4_know_38 : decode cX4_know 38 = .ok (.iconst 0, 1) := by decide +kernel
theorem dX4_know_39 : decode cX4_know 39 = .ok (.bastore, 1) := by decide +kernel
theorem dX4_know_40 : decode cX4_know 40 = .ok (.iinc 2 1, 3) := by decide +kernel
theorem dX4_know_43 : decode cX4_know 43 = .ok (.goto (-31), 3) := by decide +kernel
theorem dX4_know_46 : decode cX4_know 46 = .ok (.iconst 0, 1) := by decide +kernel
theorem dX4_know_47 : decode cX4_know 47 = .ok (.istore_n 2, 1) := by decide +kernel
theorem dX4_know_48 : decode cX4_know 48 = .ok (.iload_n 2, 1) := by decide +kernel
theorem dX4_know_49 : decode cX4_know 49 = .ok (.aload_n 0, 1) := by decide +kernel
theorem dX4_know_50 : decode cX4_know 50 = .ok (.getfield 30, 3) := by decide +kernel
theorem dX4_know_53 : decode cX4_know 53 = .ok (.iload_n 1, 1) := by decide +kernel
theorem dX4_know_54 : decode cX4_know 54 = .ok (.iaload, 1) := by decide +kernel
theorem dX4_know_55 : decode cX4_know 55 = .ok (.if_icmp .ge 25, 3) := by decide +kernel
theorem dX4_know_58 : decode cX4_know 58 = .ok (.aload_n 0, 1) := by decide +kernel
theorem dX4_know_59 : decode cX4_know 59 = .ok (.iload_n 1, 1) := by decide +kernel
theorem dX4_know_60 : decode cX4_know 60 = .ok (.aload_n 0, 1) := by decide +kernel
theorem dX4_know_61 : decode cX4_know 61 = .ok (.getfield 33, 3) := by decide +kernel
theorem dX4_know_64 : decode cX4_know 64 = .ok (.bipush 12, 2) := by decide +kernel
theorem dX4_know_66 : decode cX4_know 66 = .ok (.iload_n 1, 1) := by decide +kernel
theorem dX4_know_67 : decode cX4_know 67 = .ok (.imul, 1) := by decide +kernel
theorem dX4_know_68 : decode cX4_know 68 = .ok (.iload_n 2, 1) := by decide +kernel
theorem dX4_know_69 : decode cX4_know 69 = .ok (.iadd, 1) := by decide +kernel
theorem dX4_know_70 : decode cX4_know 70 = .ok (.iaload, 1) := by decide +kernel
theorem dX4_know_71 : decode cX4_know 71 = .ok (.invokevirtual 116, 3) := by decide +kernel
theorem dX4_know_74 : decode cX4_know 74 = .ok (.iinc 2 1, 3) := by decide +kernel
theorem dX4_know_77 : decode cX4_know 77 = .ok (.goto (-29), 3) := by decide +kernel
theorem dX4_know_80 : decode cX4_know 80 = .ok (.iconst 0, 1) := by decide +kernel
theorem dX4_know_81 : decode cX4_know 81 = .ok (.istore_n 2, 1) := by decide +kernel
theorem dX4_know_82 : decode cX4_know 82 = .ok (.iload_n 2, 1) := by decide +kernel
theorem dX4_know_83 : decode cX4_know 83 = .ok (.aload_n 0, 1) := by decide +kernel
theorem dX4_know_84 : decode cX4_know 84 = .ok (.getfield 16, 3) := by decide +kernel
theorem dX4_know_87 : decode cX4_know 87 = .ok (.if_icmp .ge 34, 3) := by decide +kernel
theorem dX4_know_90 : decode cX4_know 90 = .ok (.aload_n 0, 1) := by decide +kernel
theorem dX4_know_91 : decode cX4_know 91 = .ok (.getfield 43, 3) := by decide +kernel
theorem dX4_know_94 : decode cX4_know 94 = .ok (.iload_n 2, 1) := by decide +kernel
theorem dX4_know_95 : decode cX4_know 95 = .ok (.iaload, 1) := by decide +kernel
theorem dX4_know_96 : decode cX4_know 96 = .ok (.iload_n 1, 1) := by decide +kernel
theorem dX4_know_97 : decode cX4_know 97 = .ok (.ishr, 1) := by decide +kernel
theorem dX4_know_98 : decode cX4_know 98 = .ok (.iconst 1, 1) := by decide +kernel
theorem dX4_know_99 : decode cX4_know 99 = .ok (.iand, 1) := by decide +kernel
theorem dX4_know_100 : decode cX4_know 100 = .ok (.iconst 1, 1) := by decide +kernel
theorem dX4_know_101 : decode cX4_know 101 = .ok (.if_icmp .ne 14, 3) := by decide +kernel
theorem dX4_know_104 : decode cX4_know 104 = .ok (.aload_n 0, 1) := by decide +kernel
theorem dX4_know_105 : decode cX4_know 105 = .ok (.iload_n 1, 1) := by decide +kernel
theorem dX4_know_106 : decode cX4_know 106 = .ok (.aload_n 0, 1) := by decide +kernel
theorem dX4_know_107 : decode cX4_know 107 = .ok (.getfield 40, 3) := by decide +kernel
theorem dX4_know_110 : decode cX4_know 110 = .ok (.iload_n 2, 1) := by decide +kernel
theorem dX4_know_111 : decode cX4_know 111 = .ok (.iaload, 1) := by decide +kernel
theorem dX4_know_112 : decode cX4_know 112 = .ok (.invokevirtual 116, 3) := by decide +kernel
theorem dX4_know_115 : decode cX4_know 115 = .ok (.iinc 2 1, 3) := by decide +kernel
theorem dX4_know_118 : decode cX4_know 118 = .ok (.goto (-36), 3) := by decide +kernel
theorem dX4_know_121 : decode cX4_know 121 = .ok (.return_, 1) := by decide +kernel
theorem dX4_knowAll_0 : decode cX4_knowAll 0 = .ok (.iconst 0, 1) := by decide +kernel
theorem dX4_knowAll_1 : decode cX4_knowAll 1 = .ok (.istore_n 1, 1) := by decide +kernel
theorem dX4_knowAll_2 : decode cX4_knowAll 2 = .ok (.iload_n 1, 1) := by decide +kernel
theorem dX4_knowAll_3 : decode cX4_knowAll 3 = .ok (.aload_n 0, 1) := by decide +kernel
theorem dX4_knowAll_4 : decode cX4_knowAll 4 = .ok (.getfield 13, 3) := by decide +kernel
theorem dX4_knowAll_7 : decode cX4_knowAll 7 = .ok (.if_icmp .ge 14, 3) := by decide +kernel
theorem dX4_knowAll_10 : decode cX4_knowAll 10 = .ok (.aload_n 0, 1) := by decide +kernel
theorem dX4_knowAll_11 : decode cX4_knowAll 11 = .ok (.iload_n 1, 1) := by decide +kernel
theorem dX4_knowAll_12 : decode cX4_knowAll 12 = .ok (.invokevirtual 120, 3) := by decide +kernel
theorem dX4_knowAll_15 : decode cX4_knowAll 15 = .ok (.iinc 1 1, 3) := by decide +kernel
theorem dX4_knowAll_18 : decode cX4_knowAll 18 = .ok (.goto (-16), 3) := by decide +kernel
theorem dX4_knowAll_21 : decode cX4_knowAll 21 = .ok (.return_, 1) := by decide +kernel
theorem dX4_isOut_0 : decode cX4_isOut 0 = .ok (.aload_n 0, 1) := by decide +kernel
theorem dX4_isOut_1 : decode cX4_isOut 1 = .ok (.getfield 58, 3) := by decide +kernel
theorem dX4_isOut_4 : decode cX4_isOut 4 = .ok (.sipush 1024, 3) := by decide +kernel
theorem dX4_isOut_7 : decode cX4_isOut 7 = .ok (.iload_n 1, 1) := by decide +kernel
theorem dX4_isOut_8 : decode cX4_isOut 8 = .ok (.imul, 1) := by decide +kernel
theorem dX4_isOut_9 : decode cX4_isOut 9 = .ok (.iload_n 2, 1) := by decide +kernel
theorem dX4_isOut_10 : decode cX4_isOut 10 = .ok (.iadd, 1) := by decide +kernel
theorem dX4_isOut_11 : decode cX4_isOut 11 = .ok (.baload, 1) := by decide +kernel
theorem dX4_isOut_12 : decode cX4_isOut 12 = .ok (.ireturn, 1) := by decide +kernel
theorem dX4_isServed_0 : decode cX4_isServed 0 = .ok (.iconst 0, 1) := by decide +kernel
theorem dX4_isServed_1 : decode cX4_isServed 1 = .ok (.istore_n 3, 1) := by decide +kernel
theorem dX4_isServed_2 : decode cX4_isServed 2 = .ok (.iconst 0, 1) := by decide +kernel
theorem dX4_isServed_3 : decode cX4_isServed 3 = .ok (.istore 4, 2) := by decide +kernel
theorem dX4_isServed_5 : decode cX4_isServed 5 = .ok (.iload 4, 2) := by decide +kernel
theorem dX4_isServed_7 : decode cX4_isServed 7 = .ok (.aload_n 0, 1) := by decide +kernel
theorem dX4_isServed_8 : decode cX4_isServed 8 = .ok (.getfield 30, 3) := by decide +kernel
theorem dX4_isServed_11 : decode cX4_isServed 11 = .ok (.iload_n 1, 1) := by decide +kernel
theorem dX4_isServed_12 : decode cX4_isServed 12 = .ok (.iaload, 1) := by decide +kernel
theorem dX4_isServed_13 : decode cX4_isServed 13 = .ok (.if_icmp .ge 43, 3) := by decide +kernel
theorem dX4_isServed_16 : decode cX4_isServed 16 = .ok (.aload_n 0, 1) := by decide +kernel
theorem dX4_isServed_17 : decode cX4_isServed 17 = .ok (.aload_n 0, 1) := by decide +kernel
theorem dX4_isServed_18 : decode cX4_isServed 18 = .ok (.getfield 33, 3) := by decide +kernel
theorem dX4_isServed_21 : decode cX4_isServed 21 = .ok (.bipush 12, 2) := by decide +kernel
theorem dX4_isServed_23 : decode cX4_isServed 23 = .ok (.iload_n 1, 1) := by decide +kernel
theorem dX4_isServed_24 : decode cX4_isServed 24 = .ok (.imul, 1) := by decide +kernel
theorem dX4_isServed_25 : decode cX4_isServed 25 = .ok (.iload 4, 2) := by decide +kernel
theorem dX4_isServed_27 : decode cX4_isServed 27 = .ok (.iadd, 1) := by decide +kernel
theorem dX4_isServed_28 : decode cX4_isServed 28 = .ok (.iaload, 1) := by decide +kernel
theorem dX4_isServed_29 : decode cX4_isServed 29 = .ok (.invokevirtual 98, 3) := by decide +kernel
theorem dX4_isServed_32 : decode cX4_isServed 32 = .ok (.ifCond .eq 18, 3) := by decide +kernel
theorem dX4_isServed_35 : decode cX4_isServed 35 = .ok (.iload_n 3, 1) := by decide +kernel
theorem dX4_isServed_36 : decode cX4_isServed 36 = .ok (.aload_n 0, 1) := by decide +kernel
theorem dX4_isServed_37 : decode cX4_isServed 37 = .ok (.getfield 33, 3) := by decide +kernel
theorem dX4_isServed_40 : decode cX4_isServed 40 = .ok (.bipush 12, 2) := by decide +kernel
theorem dX4_isServed_42 : decode cX4_isServed 42 = .ok (.iload_n 1, 1) := by decide +kernel
theorem dX4_isServed_43 : decode cX4_isServed 43 = .ok (.imul, 1) := by decide +kernel
theorem dX4_isServed_44 : decode cX4_isServed 44 = .ok (.iload 4, 2) := by decide +kernel
theorem dX4_isServed_46 : decode cX4_isServed 46 = .ok (.iadd, 1) := by decide +kernel
theorem dX4_isServed_47 : decode cX4_isServed 47 = .ok (.iaload, 1) := by decide +kernel
theorem dX4_isServed_48 : decode cX4_isServed 48 = .ok (.ior, 1) := by decide +kernel
theorem dX4_isServed_49 : decode cX4_isServed 49 = .ok (.istore_n 3, 1) := by decide +kernel
theorem dX4_isServed_50 : decode cX4_isServed 50 = .ok (.iinc 4 1, 3) := by decide +kernel
theorem dX4_isServed_53 : decode cX4_isServed 53 = .ok (.goto (-48), 3) := by decide +kernel
theorem dX4_isServed_56 : decode cX4_isServed 56 = .ok (.aload_n 0, 1) := by decide +kernel
theorem dX4_isServed_57 : decode cX4_isServed 57 = .ok (.getfield 23, 3) := by decide +kernel
theorem dX4_isServed_60 : decode cX4_isServed 60 = .ok (.iload_n 1, 1) := by decide +kernel
theorem dX4_isServed_61 : decode cX4_isServed 61 = .ok (.iaload, 1) := by decide +kernel
theorem dX4_isServed_62 : decode cX4_isServed 62 = .ok (.iconst 2, 1) := by decide +kernel
theorem dX4_isServed_63 : decode cX4_isServed 63 = .ok (.if_icmp .ne 17, 3) := by decide +kernel
theorem dX4_isServed_66 : decode cX4_isServed 66 = .ok (.iload_n 3, 1) := by decide +kernel
theorem dX4_isServed_67 : decode cX4_isServed 67 = .ok (.iconst 1, 1) := by decide +kernel
theorem dX4_isServed_68 : decode cX4_isServed 68 = .ok (.aload_n 0, 1) := by decide +kernel
theorem dX4_isServed_69 : decode cX4_isServed 69 = .ok (.getfield 7, 3) := by decide +kernel
theorem dX4_isServed_72 : decode cX4_isServed 72 = .ok (.ishl, 1) := by decide +kernel
theorem dX4_isServed_73 : decode cX4_isServed 73 = .ok (.iconst 1, 1) := by decide +kernel
theorem dX4_isServed_74 : decode cX4_isServed 74 = .ok (.isub, 1) := by decide +kernel
theorem dX4_isServed_75 : decode cX4_isServed 75 = .ok (.if_icmp .ne 5, 3) := by decide +kernel
theorem dX4_isServed_78 : decode cX4_isServed 78 = .ok (.iconst 1, 1) := by decide +kernel
theorem dX4_isServed_79 : decode cX4_isServed 79 = .ok (.ireturn, 1) := by decide +kernel
theorem dX4_isServed_80 : decode cX4_isServed 80 = .ok (.iconst 1, 1) := by decide +kernel
theorem dX4_isServed_81 : decode cX4_isServed 81 = .ok (.istore 4, 2) := by decide +kernel
theorem dX4_isServed_83 : decode cX4_isServed 83 = .ok (.iconst 0, 1) := by decide +kernel
theorem dX4_isServed_84 : decode cX4_isServed 84 = .ok (.istore 5, 2) := by decide +kernel
theorem dX4_isServed_86 : decode cX4_isServed 86 = .ok (.iconst 0, 1) := by decide +kernel
theorem dX4_isServed_87 : decode cX4_isServed 87 = .ok (.istore 6, 2) := by decide +kernel
theorem dX4_isServed_89 : decode cX4_isServed 89 = .ok (.iload 6, 2) := by decide +kernel
theorem dX4_isServed_91 : decode cX4_isServed 91 = .ok (.aload_n 0, 1) := by decide +kernel
theorem dX4_isServed_92 : decode cX4_isServed 92 = .ok (.getfield 7, 3) := by decide +kernel
theorem dX4_isServed_95 : decode cX4_isServed 95 = .ok (.if_icmp .ge 99, 3) := by decide +kernel
theorem dX4_isServed_98 : decode cX4_isServed 98 = .ok (.aload_n 0, 1) := by decide +kernel
theorem dX4_isServed_99 : decode cX4_isServed 99 = .ok (.iload_n 1, 1) := by decide +kernel
theorem dX4_isServed_100 : decode cX4_isServed 100 = .ok (.iconst 1, 1) := by decide +kernel
theorem dX4_isServed_101 : decode cX4_isServed 101 = .ok (.iload 6, 2) := by decide +kernel
theorem dX4_isServed_103 : decode cX4_isServed 103 = .ok (.ishl, 1) := by decide +kernel
theorem dX4_isServed_104 : decode cX4_isServed 104 = .ok (.invokevirtual 124, 3) := by decide +kernel
theorem dX4_isServed_107 : decode cX4_isServed 107 = .ok (.ifCond .ne 17, 3) := by decide +kernel
theorem dX4_isServed_110 : decode cX4_isServed 110 = .ok (.aload_n 0, 1) := by decide +kernel
theorem dX4_isServed_111 : decode cX4_isServed 111 = .ok (.iload_n 1, 1) := by decide +kernel
theorem dX4_isServed_112 : decode cX4_isServed 112 = .ok (.iconst 1, 1) := by decide +kernel
theorem dX4_isServed_113 : decode cX4_isServed 113 = .ok (.iload 6, 2) := by decide +kernel
theorem dX4_isServed_115 : decode cX4_isServed 115 = .ok (.ishl, 1) := by decide +kernel
theorem dX4_isServed_116 : decode cX4_isServed 116 = .ok (.iload_n 2, 1) := by decide +kernel
theorem dX4_isServed_117 : decode cX4_isServed 117 = .ok (.ixor, 1) := by decide +kernel
theorem dX4_isServed_118 : decode cX4_isServed 118 = .ok (.invokevirtual 124, 3) := by decide +kernel
theorem dX4_isServed_121 : decode cX4_isServed 121 = .ok (.ifCond .eq 7, 3) := by decide +kernel
theorem dX4_isServed_124 : decode cX4_isServed 124 = .ok (.iconst 1, 1) := by decide +kernel
theorem dX4_isServed_125 : decode cX4_isServed 125 = .ok (.goto 4, 3) := by decide +kernel
theorem dX4_isServed_128 : decode cX4_isServed 128 = .ok (.iconst 0, 1) := by decide +kernel
theorem dX4_isServed_129 : decode cX4_isServed 129 = .ok (.istore 7, 2) := by decide +kernel
theorem dX4_isServed_131 : decode cX4_isServed 131 = .ok (.iload 5, 2) := by decide +kernel
theorem dX4_isServed_133 : decode cX4_isServed 133 = .ok (.ifCond .ne 17, 3) := by decide +kernel
theorem dX4_isServed_136 : decode cX4_isServed 136 = .ok (.iload 7, 2) := by decide +kernel
theorem dX4_isServed_138 : decode cX4_isServed 138 = .ok (.ifCond .eq 16, 3) := by decide +kernel
theorem dX4_isServed_141 : decode cX4_isServed 141 = .ok (.iload_n 3, 1) := by decide +kernel
theorem dX4_isServed_142 : decode cX4_isServed 142 = .ok (.iload 6, 2) := by decide +kernel
theorem dX4_isServed_144 : decode cX4_isServed 144 = .ok (.ishr, 1) := by decide +kernel
theorem dX4_isServed_145 : decode cX4_isServed 145 = .ok (.iconst 1, 1) := by decide +kernel
theorem dX4_isServed_146 : decode cX4_isServed 146 = .ok (.iand, 1) := by decide +kernel
theorem dX4_isServed_147 : decode cX4_isServed 147 = .ok (.ifCond .ne 7, 3) := by decide +kernel
theorem dX4_isServed_150 : decode cX4_isServed 150 = .ok (.iconst 1, 1) := by decide +kernel
theorem dX4_isServed_151 : decode cX4_isServed 151 = .ok (.goto 4, 3) := by decide +kernel
theorem dX4_isServed_154 : decode cX4_isServed 154 = .ok (.iconst 0, 1) := by decide +kernel
theorem dX4_isServed_155 : decode cX4_isServed 155 = .ok (.istore 5, 2) := by decide +kernel
theorem dX4_isServed_157 : decode cX4_isServed 157 = .ok (.iload 4, 2) := by decide +kernel
theorem dX4_isServed_159 : decode cX4_isServed 159 = .ok (.ifCond .eq 26, 3) := by decide +kernel
theorem dX4_isServed_162 : decode cX4_isServed 162 = .ok (.iload 7, 2) := by decide +kernel
theorem dX4_isServed_164 : decode cX4_isServed 164 = .ok (.ifCond .ne 17, 3) := by decide +kernel
theorem dX4_isServed_167 : decode cX4_isServed 167 = .ok (.aload_n 0, 1) := by decide +kernel
theorem dX4_isServed_168 : decode cX4_isServed 168 = .ok (.getfield 27, 3) := by decide +kernel
theorem dX4_isServed_171 : decode cX4_isServed 171 = .ok (.iload_n 1, 1) := by decide +kernel
theorem dX4_isServed_172 : decode cX4_isServed 172 = .ok (.iaload, 1) := by decide +kernel
theorem dX4_isServed_173 : decode cX4_isServed 173 = .ok (.iload 6, 2) := by decide +kernel
theorem dX4_isServed_175 : decode cX4_isServed 175 = .ok (.ishr, 1) := by decide +kernel
theorem dX4_isServed_176 : decode cX4_isServed 176 = .ok (.iconst 1, 1) := by decide +kernel
theorem dX4_isServed_177 : decode cX4_isServed 177 = .ok (.iand, 1) := by decide +kernel
theorem dX4_isServed_178 : decode cX4_isServed 178 = .ok (.ifCond .ne 7, 3) := by decide +kernel
theorem dX4_isServed_181 : decode cX4_isServed 181 = .ok (.iconst 1, 1) := by decide +kernel
theorem dX4_isServed_182 : decode cX4_isServed 182 = .ok (.goto 4, 3) := by decide +kernel
theorem dX4_isServed_185 : decode cX4_isServed 185 = .ok (.iconst 0, 1) := by decide +kernel
theorem dX4_isServed_186 : decode cX4_isServed 186 = .ok (.istore 4, 2) := by decide +kernel
theorem dX4_isServed_188 : decode cX4_isServed 188 = .ok (.iinc 6 1, 3) := by decide +kernel
theorem dX4_isServed_191 : decode cX4_isServed 191 = .ok (.goto (-102), 3) := by decide +kernel
theorem dX4_isServed_194 : decode cX4_isServed 194 = .ok (.aload_n 0, 1) := by decide +kernel
theorem dX4_isServed_195 : decode cX4_isServed 195 = .ok (.getfield 23, 3) := by decide +kernel
theorem dX4_isServed_198 : decode cX4_isServed 198 = .ok (.iload_n 1, 1) := by decide +kernel
theorem dX4_isServed_199 : decode cX4_isServed 199 = .ok (.iaload, 1) := by decide +kernel
theorem dX4_isServed_200 : decode cX4_isServed 200 = .ok (.iconst 2, 1) := by decide +kernel
theorem dX4_isServed_201 : decode cX4_isServed 201 = .ok (.if_icmp .ne 8, 3) := by decide +kernel
theorem dX4_isServed_204 : decode cX4_isServed 204 = .ok (.iload 5, 2) := by decide +kernel
theorem dX4_isServed_206 : decode cX4_isServed 206 = .ok (.goto 5, 3) := by decide +kernel
theorem dX4_isServed_209 : decode cX4_isServed 209 = .ok (.iload 4, 2) := by decide +kernel
theorem dX4_isServed_211 : decode cX4_isServed 211 = .ok (.ireturn, 1) := by decide +kernel
theorem dX4_call_0 : decode cX4_call 0 = .ok (.aload_n 0, 1) := by decide +kernel
theorem dX4_call_1 : decode cX4_call 1 = .ok (.iload_n 1, 1) := by decide +kernel
theorem dX4_call_2 : decode cX4_call 2 = .ok (.invokevirtual 109, 3) := by decide +kernel
theorem dX4_call_5 : decode cX4_call 5 = .ok (.ifCond .ne 5, 3) := by decide +kernel
theorem dX4_call_8 : decode cX4_call 8 = .ok (.iconst (-1), 1) := by decide +kernel
theorem dX4_call_9 : decode cX4_call 9 = .ok (.ireturn, 1) := by decide +kernel
theorem dX4_call_10 : decode cX4_call 10 = .ok (.iconst 0, 1) := by decide +kernel
theorem dX4_call_11 : decode cX4_call 11 = .ok (.istore_n 3, 1) := by decide +kernel
theorem dX4_call_12 : decode cX4_call 12 = .ok (.iload_n 2, 1) := by decide +kernel
theorem dX4_call_13 : decode cX4_call 13 = .ok (.tableswitch 121 0 2 #[27, 34, 68], 27) := by decide +kernel
theorem dX4_call_40 : decode cX4_call 40 = .ok (.aload_n 0, 1) := by decide +kernel
theorem dX4_call_41 : decode cX4_call 41 = .ok (.getfield 40, 3) := by decide +kernel
theorem dX4_call_44 : decode cX4_call 44 = .ok (.iload_n 1, 1) := by decide +kernel
theorem dX4_call_45 : decode cX4_call 45 = .ok (.iaload, 1) := by decide +kernel
theorem dX4_call_46 : decode cX4_call 46 = .ok (.ireturn, 1) := by decide +kernel
theorem dX4_call_47 : decode cX4_call 47 = .ok (.iconst 0, 1) := by decide +kernel
theorem dX4_call_48 : decode cX4_call 48 = .ok (.istore 4, 2) := by decide +kernel
theorem dX4_call_50 : decode cX4_call 50 = .ok (.iload 4, 2) := by decide +kernel
theorem dX4_call_52 : decode cX4_call 52 = .ok (.aload_n 0, 1) := by decide +kernel
theorem dX4_call_53 : decode cX4_call 53 = .ok (.getfield 13, 3) := by decide +kernel
theorem dX4_call_56 : decode cX4_call 56 = .ok (.if_icmp .ge 23, 3) := by decide +kernel
theorem dX4_call_59 : decode cX4_call 59 = .ok (.iload_n 3, 1) := by decide +kernel
theorem dX4_call_60 : decode cX4_call 60 = .ok (.aload_n 0, 1) := by decide +kernel
theorem dX4_call_61 : decode cX4_call 61 = .ok (.getfield 43, 3) := by decide +kernel
theorem dX4_call_64 : decode cX4_call 64 = .ok (.iload_n 1, 1) := by decide +kernel
theorem dX4_call_65 : decode cX4_call 65 = .ok (.iaload, 1) := by decide +kernel
theorem dX4_call_66 : decode cX4_call 66 = .ok (.iload 4, 2) := by decide +kernel
theorem dX4_call_68 : decode cX4_call 68 = .ok (.ishr, 1) := by decide +kernel
theorem dX4_call_69 : decode cX4_call 69 = .ok (.iconst 1, 1) := by decide +kernel
theorem dX4_call_70 : decode cX4_call 70 = .ok (.iand, 1) := by decide +kernel
theorem dX4_call_71 : decode cX4_call 71 = .ok (.iadd, 1) := by decide +kernel
theorem dX4_call_72 : decode cX4_call 72 = .ok (.istore_n 3, 1) := by decide +kernel
theorem dX4_call_73 : decode cX4_call 73 = .ok (.iinc 4 1, 3) := by decide +kernel
theorem dX4_call_76 : decode cX4_call 76 = .ok (.goto (-26), 3) := by decide +kernel
theorem dX4_call_79 : decode cX4_call 79 = .ok (.iload_n 3, 1) := by decide +kernel
theorem dX4_call_80 : decode cX4_call 80 = .ok (.ireturn, 1) := by decide +kernel
theorem dX4_call_81 : decode cX4_call 81 = .ok (.iconst 0, 1) := by decide +kernel
theorem dX4_call_82 : decode cX4_call 82 = .ok (.istore 4, 2) := by decide +kernel
theorem dX4_call_84 : decode cX4_call 84 = .ok (.iload 4, 2) := by decide +kernel
theorem dX4_call_86 : decode cX4_call 86 = .ok (.aload_n 0, 1) := by decide +kernel
theorem dX4_call_87 : decode cX4_call 87 = .ok (.getfield 13, 3) := by decide +kernel
theorem dX4_call_90 : decode cX4_call 90 = .ok (.if_icmp .ge 42, 3) := by decide +kernel
theorem dX4_call_93 : decode cX4_call 93 = .ok (.iload_n 3, 1) := by decide +kernel
theorem dX4_call_94 : decode cX4_call 94 = .ok (.aload_n 0, 1) := by decide +kernel
theorem dX4_call_95 : decode cX4_call 95 = .ok (.getfield 43, 3) := by decide +kernel
theorem dX4_call_98 : decode cX4_call 98 = .ok (.iload_n 1, 1) := by decide +kernel
theorem dX4_call_99 : decode cX4_call 99 = .ok (.iaload, 1) := by decide +kernel
theorem dX4_call_100 : decode cX4_call 100 = .ok (.iload 4, 2) := by decide +kernel
theorem dX4_call_102 : decode cX4_call 102 = .ok (.ishr, 1) := by decide +kernel
theorem dX4_call_103 : decode cX4_call 103 = .ok (.iconst 1, 1) := by decide +kernel
theorem dX4_call_104 : decode cX4_call 104 = .ok (.iand, 1) := by decide +kernel
theorem dX4_call_105 : decode cX4_call 105 = .ok (.iconst 1, 1) := by decide +kernel
theorem dX4_call_106 : decode cX4_call 106 = .ok (.if_icmp .ne 17, 3) := by decide +kernel
theorem dX4_call_109 : decode cX4_call 109 = .ok (.aload_n 0, 1) := by decide +kernel
theorem dX4_call_110 : decode cX4_call 110 = .ok (.iload 4, 2) := by decide +kernel
theorem dX4_call_112 : decode cX4_call 112 = .ok (.iload_n 1, 1) := by decide +kernel
theorem dX4_call_113 : decode cX4_call 113 = .ok (.invokevirtual 127, 3) := by decide +kernel
theorem dX4_call_116 : decode cX4_call 116 = .ok (.ifCond .eq 7, 3) := by decide +kernel
theorem dX4_call_119 : decode cX4_call 119 = .ok (.iconst 1, 1) := by decide +kernel
theorem dX4_call_120 : decode cX4_call 120 = .ok (.goto 4, 3) := by decide +kernel
theorem dX4_call_123 : decode cX4_call 123 = .ok (.iconst 0, 1) := by decide +kernel
theorem dX4_call_124 : decode cX4_call 124 = .ok (.iadd, 1) := by decide +kernel
theorem dX4_call_125 : decode cX4_call 125 = .ok (.istore_n 3, 1) := by decide +kernel
theorem dX4_call_126 : decode cX4_call 126 = .ok (.iinc 4 1, 3) := by decide +kernel
theorem dX4_call_129 : decode cX4_call 129 = .ok (.goto (-45), 3) := by decide +kernel
theorem dX4_call_132 : decode cX4_call 132 = .ok (.iload_n 3, 1) := by decide +kernel
theorem dX4_call_133 : decode cX4_call 133 = .ok (.ireturn, 1) := by decide +kernel
theorem dX4_call_134 : decode cX4_call 134 = .ok (.iconst (-1), 1) := by decide +kernel
theorem dX4_call_135 : decode cX4_call 135 = .ok (.ireturn, 1) := by decide +kernel
theorem dX4_isNewFor_0 : decode cX4_isNewFor 0 = .ok (.aload_n 0, 1) := by decide +kernel
theorem dX4_isNewFor_1 : decode cX4_isNewFor 1 = .ok (.iload_n 1, 1) := by decide +kernel
theorem dX4_isNewFor_2 : decode cX4_isNewFor 2 = .ok (.invokevirtual 120, 3) := by decide +kernel
theorem dX4_isNewFor_5 : decode cX4_isNewFor 5 = .ok (.aload_n 0, 1) := by decide +kernel
theorem dX4_isNewFor_6 : decode cX4_isNewFor 6 = .ok (.getfield 30, 3) := by decide +kernel
theorem dX4_isNewFor_9 : decode cX4_isNewFor 9 = .ok (.iload_n 1, 1) := by decide +kernel
theorem dX4_isNewFor_10 : decode cX4_isNewFor 10 = .ok (.iaload, 1) := by decide +kernel
theorem dX4_isNewFor_11 : decode cX4_isNewFor 11 = .ok (.istore_n 3, 1) := by decide +kernel
theorem dX4_isNewFor_12 : decode cX4_isNewFor 12 = .ok (.iconst 0, 1) := by decide +kernel
theorem dX4_isNewFor_13 : decode cX4_isNewFor 13 = .ok (.istore 4, 2) := by decide +kernel
theorem dX4_isNewFor_15 : decode cX4_isNewFor 15 = .ok (.iload 4, 2) := by decide +kernel
theorem dX4_isNewFor_17 : decode cX4_isNewFor 17 = .ok (.iload_n 2, 1) := by decide +kernel
theorem dX4_isNewFor_18 : decode cX4_isNewFor 18 = .ok (.if_icmp .ge 23, 3) := by decide +kernel
theorem dX4_isNewFor_21 : decode cX4_isNewFor 21 = .ok (.iload_n 3, 1) := by decide +kernel
theorem dX4_isNewFor_22 : decode cX4_isNewFor 22 = .ok (.aload_n 0, 1) := by decide +kernel
theorem dX4_isNewFor_23 : decode cX4_isNewFor 23 = .ok (.getfield 43, 3) := by decide +kernel
theorem dX4_isNewFor_26 : decode cX4_isNewFor 26 = .ok (.iload 4, 2) := by decide +kernel
theorem dX4_isNewFor_28 : decode cX4_isNewFor 28 = .ok (.iaload, 1) := by decide +kernel
theorem dX4_isNewFor_29 : decode cX4_isNewFor 29 = .ok (.iload_n 1, 1) := by decide +kernel
theorem dX4_isNewFor_30 : decode cX4_isNewFor 30 = .ok (.ishr, 1) := by decide +kernel
theorem dX4_isNewFor_31 : decode cX4_isNewFor 31 = .ok (.iconst 1, 1) := by decide +kernel
theorem dX4_isNewFor_32 : decode cX4_isNewFor 32 = .ok (.iand, 1) := by decide +kernel
theorem dX4_isNewFor_33 : decode cX4_isNewFor 33 = .ok (.iadd, 1) := by decide +kernel
theorem dX4_isNewFor_34 : decode cX4_isNewFor 34 = .ok (.istore_n 3, 1) := by decide +kernel
theorem dX4_isNewFor_35 : decode cX4_isNewFor 35 = .ok (.iinc 4 1, 3) := by decide +kernel
theorem dX4_isNewFor_38 : decode cX4_isNewFor 38 = .ok (.goto (-23), 3) := by decide +kernel
theorem dX4_isNewFor_41 : decode cX4_isNewFor 41 = .ok (.aload_n 0, 1) := by decide +kernel
theorem dX4_isNewFor_42 : decode cX4_isNewFor 42 = .ok (.getfield 49, 3) := by decide +kernel
theorem dX4_isNewFor_45 : decode cX4_isNewFor 45 = .ok (.iload_n 3, 1) := by decide +kernel
theorem dX4_isNewFor_46 : decode cX4_isNewFor 46 = .ok (.baload, 1) := by decide +kernel
theorem dX4_isNewFor_47 : decode cX4_isNewFor 47 = .ok (.ireturn, 1) := by decide +kernel
theorem dX4_about_0 : decode cX4_about 0 = .ok (.aload_n 0, 1) := by decide +kernel
theorem dX4_about_1 : decode cX4_about 1 = .ok (.iload_n 1, 1) := by decide +kernel
theorem dX4_about_2 : decode cX4_about 2 = .ok (.invokevirtual 92, 3) := by decide +kernel
theorem dX4_about_5 : decode cX4_about 5 = .ok (.ifCond .ne 5, 3) := by decide +kernel
theorem dX4_about_8 : decode cX4_about 8 = .ok (.iconst (-1), 1) := by decide +kernel
theorem dX4_about_9 : decode cX4_about 9 = .ok (.ireturn, 1) := by decide +kernel
theorem dX4_about_10 : decode cX4_about 10 = .ok (.aload_n 0, 1) := by decide +kernel
theorem dX4_about_11 : decode cX4_about 11 = .ok (.iload_n 1, 1) := by decide +kernel
theorem dX4_about_12 : decode cX4_about 12 = .ok (.invokevirtual 120, 3) := by decide +kernel
theorem dX4_about_15 : decode cX4_about 15 = .ok (.iload_n 2, 1) := by decide +kernel
theorem dX4_about_16 : decode cX4_about 16 = .ok (.tableswitch 119 0 7 #[48, 55, 62, 67, 72, 82, 89, 104], 48) := by decide +kernel
theorem dX4_about_64 : decode cX4_about 64 = .ok (.aload_n 0, 1) := by decide +kernel
theorem dX4_about_65 : decode cX4_about 65 = .ok (.getfield 23, 3) := by decide +kernel
theorem dX4_about_68 : decode cX4_about 68 = .ok (.iload_n 1, 1) := by decide +kernel
theorem dX4_about_69 : decode cX4_about 69 = .ok (.iaload, 1) := by decide +kernel
theorem dX4_about_70 : decode cX4_about 70 = .ok (.ireturn, 1) := by decide +kernel
theorem dX4_about_71 : decode cX4_about 71 = .ok (.aload_n 0, 1) := by decide +kernel
theorem dX4_about_72 : decode cX4_about 72 = .ok (.getfield 30, 3) := by decide +kernel
theorem dX4_about_75 : decode cX4_about 75 = .ok (.iload_n 1, 1) := by decide +kernel
theorem dX4_about_76 : decode cX4_about 76 = .ok (.iaload, 1) := by decide +kernel
theorem dX4_about_77 : decode cX4_about 77 = .ok (.ireturn, 1) := by decide +kernel
theorem dX4_about_78 : decode cX4_about 78 = .ok (.aload_n 0, 1) := by decide +kernel
theorem dX4_about_79 : decode cX4_about 79 = .ok (.getfield 52, 3) := by decide +kernel
theorem dX4_about_82 : decode cX4_about 82 = .ok (.ireturn, 1) := by decide +kernel
theorem dX4_about_83 : decode cX4_about 83 = .ok (.aload_n 0, 1) := by decide +kernel
theorem dX4_about_84 : decode cX4_about 84 = .ok (.getfield 55, 3) := by decide +kernel
theorem dX4_about_87 : decode cX4_about 87 = .ok (.ireturn, 1) := by decide +kernel
theorem dX4_about_88 : decode cX4_about 88 = .ok (.aload_n 0, 1) := by decide +kernel
theorem dX4_about_89 : decode cX4_about 89 = .ok (.getfield 7, 3) := by decide +kernel
theorem dX4_about_92 : decode cX4_about 92 = .ok (.aload_n 0, 1) := by decide +kernel
theorem dX4_about_93 : decode cX4_about 93 = .ok (.getfield 55, 3) := by decide +kernel
theorem dX4_about_96 : decode cX4_about 96 = .ok (.isub, 1) := by decide +kernel
theorem dX4_about_97 : decode cX4_about 97 = .ok (.ireturn, 1) := by decide +kernel
theorem dX4_about_98 : decode cX4_about 98 = .ok (.aload_n 0, 1) := by decide +kernel
theorem dX4_about_99 : decode cX4_about 99 = .ok (.getfield 27, 3) := by decide +kernel
theorem dX4_about_102 : decode cX4_about 102 = .ok (.iload_n 1, 1) := by decide +kernel
theorem dX4_about_103 : decode cX4_about 103 = .ok (.iaload, 1) := by decide +kernel
theorem dX4_about_104 : decode cX4_about 104 = .ok (.ireturn, 1) := by decide +kernel
theorem dX4_about_105 : decode cX4_about 105 = .ok (.aload_n 0, 1) := by decide +kernel
theorem dX4_about_106 : decode cX4_about 106 = .ok (.iload_n 1, 1) := by decide +kernel
theorem dX4_about_107 : decode cX4_about 107 = .ok (.iconst 0, 1) := by decide +kernel
theorem dX4_about_108 : decode cX4_about 108 = .ok (.invokevirtual 130, 3) := by decide +kernel
theorem dX4_about_111 : decode cX4_about 111 = .ok (.ifCond .eq 7, 3) := by decide +kernel
theorem dX4_about_114 : decode cX4_about 114 = .ok (.iconst 1, 1) := by decide +kernel
theorem dX4_about_115 : decode cX4_about 115 = .ok (.goto 4, 3) := by decide +kernel
theorem dX4_about_118 : decode cX4_about 118 = .ok (.iconst 0, 1) := by decide +kernel
theorem dX4_about_119 : decode cX4_about 119 = .ok (.ireturn, 1) := by decide +kernel
theorem dX4_about_120 : decode cX4_about 120 = .ok (.aload_n 0, 1) := by decide +kernel
theorem dX4_about_121 : decode cX4_about 121 = .ok (.getfield 36, 3) := by decide +kernel
theorem dX4_about_124 : decode cX4_about 124 = .ok (.iload_n 1, 1) := by decide +kernel
theorem dX4_about_125 : decode cX4_about 125 = .ok (.baload, 1) := by decide +kernel
theorem dX4_about_126 : decode cX4_about 126 = .ok (.ifCond .eq 7, 3) := by decide +kernel
theorem dX4_about_129 : decode cX4_about 129 = .ok (.iconst 1, 1) := by decide +kernel
theorem dX4_about_130 : decode cX4_about 130 = .ok (.goto 4, 3) := by decide +kernel
theorem dX4_about_133 : decode cX4_about 133 = .ok (.iconst 0, 1) := by decide +kernel
theorem dX4_about_134 : decode cX4_about 134 = .ok (.ireturn, 1) := by decide +kernel
theorem dX4_about_135 : decode cX4_about 135 = .ok (.iconst (-1), 1) := by decide +kernel
theorem dX4_about_136 : decode cX4_about 136 = .ok (.ireturn, 1) := by decide +kernel
theorem dX4_rowOf_0 : decode cX4_rowOf 0 = .ok (.aload_n 0, 1) := by decide +kernel
theorem dX4_rowOf_1 : decode cX4_rowOf 1 = .ok (.iload_n 1, 1) := by decide +kernel
theorem dX4_rowOf_2 : decode cX4_rowOf 2 = .ok (.invokevirtual 92, 3) := by decide +kernel
theorem dX4_rowOf_5 : decode cX4_rowOf 5 = .ok (.ifCond .ne 5, 3) := by decide +kernel
theorem dX4_rowOf_8 : decode cX4_rowOf 8 = .ok (.iconst (-1), 1) := by decide +kernel
theorem dX4_rowOf_9 : decode cX4_rowOf 9 = .ok (.ireturn, 1) := by decide +kernel
theorem dX4_rowOf_10 : decode cX4_rowOf 10 = .ok (.aload_n 0, 1) := by decide +kernel
theorem dX4_rowOf_11 : decode cX4_rowOf 11 = .ok (.iload_n 1, 1) := by decide +kernel
theorem dX4_rowOf_12 : decode cX4_rowOf 12 = .ok (.invokevirtual 120, 3) := by decide +kernel
theorem dX4_rowOf_15 : decode cX4_rowOf 15 = .ok (.iload_n 2, 1) := by decide +kernel
theorem dX4_rowOf_16 : decode cX4_rowOf 16 = .ok (.ifCond .lt 11, 3) := by decide +kernel
theorem dX4_rowOf_19 : decode cX4_rowOf 19 = .ok (.iload_n 2, 1) := by decide +kernel
theorem dX4_rowOf_20 : decode cX4_rowOf 20 = .ok (.aload_n 0, 1) := by decide +kernel
theorem dX4_rowOf_21 : decode cX4_rowOf 21 = .ok (.getfield 52, 3) := by decide +kernel
theorem dX4_rowOf_24 : decode cX4_rowOf 24 = .ok (.if_icmp .lt 7, 3) := by decide +kernel
theorem dX4_rowOf_27 : decode cX4_rowOf 27 = .ok (.iconst (-1), 1) := by decide +kernel
theorem dX4_rowOf_28 : decode cX4_rowOf 28 = .ok (.goto 9, 3) := by decide +kernel
theorem dX4_rowOf_31 : decode cX4_rowOf 31 = .ok (.aload_n 0, 1) := by decide +kernel
theorem dX4_rowOf_32 : decode cX4_rowOf 32 = .ok (.getfield 46, 3) := by decide +kernel
theorem dX4_rowOf_35 : decode cX4_rowOf 35 = .ok (.iload_n 2, 1) := by decide +kernel
theorem dX4_rowOf_36 : decode cX4_rowOf 36 = .ok (.iaload, 1) := by decide +kernel
theorem dX4_rowOf_37 : decode cX4_rowOf 37 = .ok (.ireturn, 1) := by decide +kernel
theorem dX4_solve_0 : decode cX4_solve 0 = .ok (.aload_n 0, 1) := by decide +kernel
theorem dX4_solve_1 : decode cX4_solve 1 = .ok (.iload_n 1, 1) := by decide +kernel
theorem dX4_solve_2 : decode cX4_solve 2 = .ok (.invokevirtual 92, 3) := by decide +kernel
theorem dX4_solve_5 : decode cX4_solve 5 = .ok (.ifCond .eq 11, 3) := by decide +kernel
theorem dX4_solve_8 : decode cX4_solve 8 = .ok (.aload_n 0, 1) := by decide +kernel
theorem dX4_solve_9 : decode cX4_solve 9 = .ok (.iload_n 2, 1) := by decide +kernel
theorem dX4_solve_10 : decode cX4_solve 10 = .ok (.invokevirtual 88, 3) := by decide +kernel
theorem dX4_solve_13 : decode cX4_solve 13 = .ok (.ifCond .ne 5, 3) := by decide +kernel
theorem dX4_solve_16 : decode cX4_solve 16 = .ok (.iconst (-1), 1) := by decide +kernel
theorem dX4_solve_17 : decode cX4_solve 17 = .ok (.ireturn, 1) := by decide +kernel
theorem dX4_solve_18 : decode cX4_solve 18 = .ok (.aload_n 0, 1) := by decide +kernel
theorem dX4_solve_19 : decode cX4_solve 19 = .ok (.iload_n 1, 1) := by decide +kernel
theorem dX4_solve_20 : decode cX4_solve 20 = .ok (.invokevirtual 120, 3) := by decide +kernel
theorem dX4_solve_23 : decode cX4_solve 23 = .ok (.aload_n 0, 1) := by decide +kernel
theorem dX4_solve_24 : decode cX4_solve 24 = .ok (.iload_n 1, 1) := by decide +kernel
theorem dX4_solve_25 : decode cX4_solve 25 = .ok (.iconst 1, 1) := by decide +kernel
theorem dX4_solve_26 : decode cX4_solve 26 = .ok (.iload_n 2, 1) := by decide +kernel
theorem dX4_solve_27 : decode cX4_solve 27 = .ok (.ishl, 1) := by decide +kernel
theorem dX4_solve_28 : decode cX4_solve 28 = .ok (.invokevirtual 124, 3) := by decide +kernel
theorem dX4_solve_31 : decode cX4_solve 31 = .ok (.ifCond .eq 7, 3) := by decide +kernel
theorem dX4_solve_34 : decode cX4_solve 34 = .ok (.iconst 1, 1) := by decide +kernel
theorem dX4_solve_35 : decode cX4_solve 35 = .ok (.goto 4, 3) := by decide +kernel
theorem dX4_solve_38 : decode cX4_solve 38 = .ok (.iconst 0, 1) := by decide +kernel
theorem dX4_solve_39 : decode cX4_solve 39 = .ok (.ireturn, 1) := by decide +kernel
theorem dX4_byRows_0 : decode cX4_byRows 0 = .ok (.iconst 0, 1) := by decide +kernel
theorem dX4_byRows_1 : decode cX4_byRows 1 = .ok (.istore_n 2, 1) := by decide +kernel
theorem dX4_byRows_2 : decode cX4_byRows 2 = .ok (.iconst 0, 1) := by decide +kernel
theorem dX4_byRows_3 : decode cX4_byRows 3 = .ok (.istore_n 3, 1) := by decide +kernel
theorem dX4_byRows_4 : decode cX4_byRows 4 = .ok (.iload_n 3, 1) := by decide +kernel
theorem dX4_byRows_5 : decode cX4_byRows 5 = .ok (.aload_n 0, 1) := by decide +kernel
theorem dX4_byRows_6 : decode cX4_byRows 6 = .ok (.getfield 52, 3) := by decide +kernel
theorem dX4_byRows_9 : decode cX4_byRows 9 = .ok (.if_icmp .ge 31, 3) := by decide +kernel
theorem dX4_byRows_12 : decode cX4_byRows 12 = .ok (.aload_n 0, 1) := by decide +kernel
theorem dX4_byRows_13 : decode cX4_byRows 13 = .ok (.getfield 49, 3) := by decide +kernel
theorem dX4_byRows_16 : decode cX4_byRows 16 = .ok (.iload_n 3, 1) := by decide +kernel
theorem dX4_byRows_17 : decode cX4_byRows 17 = .ok (.baload, 1) := by decide +kernel
theorem dX4_byRows_18 : decode cX4_byRows 18 = .ok (.ifCond .ne 6, 3) := by decide +kernel
theorem dX4_byRows_21 : decode cX4_byRows 21 = .ok (.goto 13, 3) := by decide +kernel
theorem dX4_byRows_24 : decode cX4_byRows 24 = .ok (.aload_n 0, 1) := by decide +kernel
theorem dX4_byRows_25 : decode cX4_byRows 25 = .ok (.getfield 64, 3) := by decide +kernel
theorem dX4_byRows_28 : decode cX4_byRows 28 = .ok (.iload_n 2, 1) := by decide +kernel
theorem dX4_byRows_29 : decode cX4_byRows 29 = .ok (.iload_n 3, 1) := by decide +kernel
theorem dX4_byRows_30 : decode cX4_byRows 30 = .ok (.iastore, 1) := by decide +kernel
theorem dX4_byRows_31 : decode cX4_byRows 31 = .ok (.iinc 2 1, 3) := by decide +kernel
theorem dX4_byRows_34 : decode cX4_byRows 34 = .ok (.iinc 3 1, 3) := by decide +kernel
theorem dX4_byRows_37 : decode cX4_byRows 37 = .ok (.goto (-33), 3) := by decide +kernel
theorem dX4_byRows_40 : decode cX4_byRows 40 = .ok (.iconst 0, 1) := by decide +kernel
theorem dX4_byRows_41 : decode cX4_byRows 41 = .ok (.istore_n 3, 1) := by decide +kernel
theorem dX4_byRows_42 : decode cX4_byRows 42 = .ok (.iload_n 3, 1) := by decide +kernel
theorem dX4_byRows_43 : decode cX4_byRows 43 = .ok (.iconst 1, 1) := by decide +kernel
theorem dX4_byRows_44 : decode cX4_byRows 44 = .ok (.iload_n 2, 1) := by decide +kernel
theorem dX4_byRows_45 : decode cX4_byRows 45 = .ok (.ishl, 1) := by decide +kernel
theorem dX4_byRows_46 : decode cX4_byRows 46 = .ok (.if_icmp .ge 82, 3) := by decide +kernel
theorem dX4_byRows_49 : decode cX4_byRows 49 = .ok (.iconst 0, 1) := by decide +kernel
theorem dX4_byRows_50 : decode cX4_byRows 50 = .ok (.istore 4, 2) := by decide +kernel
theorem dX4_byRows_52 : decode cX4_byRows 52 = .ok (.lconst 0, 1) := by decide +kernel
theorem dX4_byRows_53 : decode cX4_byRows 53 = .ok (.lstore 5, 2) := by decide +kernel
theorem dX4_byRows_55 : decode cX4_byRows 55 = .ok (.iconst 0, 1) := by decide +kernel
theorem dX4_byRows_56 : decode cX4_byRows 56 = .ok (.istore 7, 2) := by decide +kernel
theorem dX4_byRows_58 : decode cX4_byRows 58 = .ok (.iload 7, 2) := by decide +kernel
theorem dX4_byRows_60 : decode cX4_byRows 60 = .ok (.iload_n 2, 1) := by decide +kernel
theorem dX4_byRows_61 : decode cX4_byRows 61 = .ok (.if_icmp .ge 52, 3) := by decide +kernel
theorem dX4_byRows_64 : decode cX4_byRows 64 = .ok (.iload_n 3, 1) := by decide +kernel
theorem dX4_byRows_65 : decode cX4_byRows 65 = .ok (.iload 7, 2) := by decide +kernel
theorem dX4_byRows_67 : decode cX4_byRows 67 = .ok (.ishr, 1) := by decide +kernel
theorem dX4_byRows_68 : decode cX4_byRows 68 = .ok (.iconst 1, 1) := by decide +kernel
theorem dX4_byRows_69 : decode cX4_byRows 69 = .ok (.iand, 1) := by decide +kernel
theorem dX4_byRows_70 : decode cX4_byRows 70 = .ok (.ifCond .ne 6, 3) := by decide +kernel
theorem dX4_byRows_73 : decode cX4_byRows 73 = .ok (.goto 34, 3) := by decide +kernel
theorem dX4_byRows_76 : decode cX4_byRows 76 = .ok (.iload 4, 2) := by decide +kernel
theorem dX4_byRows_78 : decode cX4_byRows 78 = .ok (.aload_n 0, 1) := by decide +kernel
theorem dX4_byRows_79 : decode cX4_byRows 79 = .ok (.getfield 46, 3) := by decide +kernel
theorem dX4_byRows_82 : decode cX4_byRows 82 = .ok (.aload_n 0, 1) := by decide +kernel
theorem dX4_byRows_83 : decode cX4_byRows 83 = .ok (.getfield 64, 3) := by decide +kernel
theorem dX4_byRows_86 : decode cX4_byRows 86 = .ok (.iload 7, 2) := by decide +kernel
theorem dX4_byRows_88 : decode cX4_byRows 88 = .ok (.iaload, 1) := by decide +kernel
theorem dX4_byRows_89 : decode cX4_byRows 89 = .ok (.iaload, 1) := by decide +kernel
theorem dX4_byRows_90 : decode cX4_byRows 90 = .ok (.ixor, 1) := by decide +kernel
theorem dX4_byRows_91 : decode cX4_byRows 91 = .ok (.istore 4, 2) := by decide +kernel
theorem dX4_byRows_93 : decode cX4_byRows 93 = .ok (.lload 5, 2) := by decide +kernel
theorem dX4_byRows_95 : decode cX4_byRows 95 = .ok (.lconst 1, 1) := by decide +kernel
theorem dX4_byRows_96 : decode cX4_byRows 96 = .ok (.aload_n 0, 1) := by decide +kernel
theorem dX4_byRows_97 : decode cX4_byRows 97 = .ok (.getfield 64, 3) := by decide +kernel
theorem dX4_byRows_100 : decode cX4_byRows 100 = .ok (.iload 7, 2) := by decide +kernel
theorem dX4_byRows_102 : decode cX4_byRows 102 = .ok (.iaload, 1) := by decide +kernel
theorem dX4_byRows_103 : decode cX4_byRows 103 = .ok (.lshl, 1) := by decide +kernel
theorem dX4_byRows_104 : decode cX4_byRows 104 = .ok (.lor, 1) := by decide +kernel
theorem dX4_byRows_105 : decode cX4_byRows 105 = .ok (.lstore 5, 2) := by decide +kernel
theorem dX4_byRows_107 : decode cX4_byRows 107 = .ok (.iinc 7 1, 3) := by decide +kernel
theorem dX4_byRows_110 : decode cX4_byRows 110 = .ok (.goto (-52), 3) := by decide +kernel
theorem dX4_byRows_113 : decode cX4_byRows 113 = .ok (.iload 4, 2) := by decide +kernel
theorem dX4_byRows_115 : decode cX4_byRows 115 = .ok (.iload_n 1, 1) := by decide +kernel
theorem dX4_byRows_116 : decode cX4_byRows 116 = .ok (.if_icmp .ne 6, 3) := by decide +kernel
theorem dX4_byRows_119 : decode cX4_byRows 119 = .ok (.lload 5, 2) := by decide +kernel
theorem dX4_byRows_121 : decode cX4_byRows 121 = .ok (.lreturn, 1) := by decide +kernel
theorem dX4_byRows_122 : decode cX4_byRows 122 = .ok (.iinc 3 1, 3) := by decide +kernel
theorem dX4_byRows_125 : decode cX4_byRows 125 = .ok (.goto (-83), 3) := by decide +kernel
theorem dX4_byRows_128 : decode cX4_byRows 128 = .ok (.ldc2_w 133, 3) := by decide +kernel
theorem dX4_byRows_131 : decode cX4_byRows 131 = .ok (.lreturn, 1) := by decide +kernel
theorem dX4_why_0 : decode cX4_why 0 = .ok (.aload_n 0, 1) := by decide +kernel
theorem dX4_why_1 : decode cX4_why 1 = .ok (.iload_n 1, 1) := by decide +kernel
theorem dX4_why_2 : decode cX4_why 2 = .ok (.invokevirtual 92, 3) := by decide +kernel
theorem dX4_why_5 : decode cX4_why 5 = .ok (.ifCond .eq 11, 3) := by decide +kernel
theorem dX4_why_8 : decode cX4_why 8 = .ok (.aload_n 0, 1) := by decide +kernel
theorem dX4_why_9 : decode cX4_why 9 = .ok (.iload_n 2, 1) := by decide +kernel
theorem dX4_why_10 : decode cX4_why 10 = .ok (.invokevirtual 88, 3) := by decide +kernel
theorem dX4_why_13 : decode cX4_why 13 = .ok (.ifCond .ne 7, 3) := by decide +kernel
theorem dX4_why_16 : decode cX4_why 16 = .ok (.ldc2_w 133, 3) := by decide +kernel
theorem dX4_why_19 : decode cX4_why 19 = .ok (.lreturn, 1) := by decide +kernel
theorem dX4_why_20 : decode cX4_why 20 = .ok (.aload_n 0, 1) := by decide +kernel
theorem dX4_why_21 : decode cX4_why 21 = .ok (.iload_n 1, 1) := by decide +kernel
theorem dX4_why_22 : decode cX4_why 22 = .ok (.invokevirtual 120, 3) := by decide +kernel
theorem dX4_why_25 : decode cX4_why 25 = .ok (.aload_n 0, 1) := by decide +kernel
theorem dX4_why_26 : decode cX4_why 26 = .ok (.iconst 1, 1) := by decide +kernel
theorem dX4_why_27 : decode cX4_why 27 = .ok (.iload_n 2, 1) := by decide +kernel
theorem dX4_why_28 : decode cX4_why 28 = .ok (.ishl, 1) := by decide +kernel
theorem dX4_why_29 : decode cX4_why 29 = .ok (.invokevirtual 135, 3) := by decide +kernel
theorem dX4_why_32 : decode cX4_why 32 = .ok (.lreturn, 1) := by decide +kernel
theorem dX4_gets_0 : decode cX4_gets 0 = .ok (.aload_n 0, 1) := by decide +kernel
theorem dX4_gets_1 : decode cX4_gets 1 = .ok (.iload_n 1, 1) := by decide +kernel
theorem dX4_gets_2 : decode cX4_gets 2 = .ok (.invokevirtual 92, 3) := by decide +kernel
theorem dX4_gets_5 : decode cX4_gets 5 = .ok (.ifCond .eq 11, 3) := by decide +kernel
theorem dX4_gets_8 : decode cX4_gets 8 = .ok (.aload_n 0, 1) := by decide +kernel
theorem dX4_gets_9 : decode cX4_gets 9 = .ok (.iload_n 2, 1) := by decide +kernel
theorem dX4_gets_10 : decode cX4_gets 10 = .ok (.invokevirtual 88, 3) := by decide +kernel
theorem dX4_gets_13 : decode cX4_gets 13 = .ok (.ifCond .ne 5, 3) := by decide +kernel
theorem dX4_gets_16 : decode cX4_gets 16 = .ok (.lconst 0, 1) := by decide +kernel
theorem dX4_gets_17 : decode cX4_gets 17 = .ok (.lreturn, 1) := by decide +kernel
theorem dX4_gets_18 : decode cX4_gets 18 = .ok (.aload_n 0, 1) := by decide +kernel
theorem dX4_gets_19 : decode cX4_gets 19 = .ok (.iload_n 1, 1) := by decide +kernel
theorem dX4_gets_20 : decode cX4_gets 20 = .ok (.invokevirtual 120, 3) := by decide +kernel
theorem dX4_gets_23 : decode cX4_gets 23 = .ok (.aload_n 0, 1) := by decide +kernel
theorem dX4_gets_24 : decode cX4_gets 24 = .ok (.iconst 1, 1) := by decide +kernel
theorem dX4_gets_25 : decode cX4_gets 25 = .ok (.iload_n 2, 1) := by decide +kernel
theorem dX4_gets_26 : decode cX4_gets 26 = .ok (.ishl, 1) := by decide +kernel
theorem dX4_gets_27 : decode cX4_gets 27 = .ok (.invokevirtual 135, 3) := by decide +kernel
theorem dX4_gets_30 : decode cX4_gets 30 = .ok (.lstore_n 3, 1) := by decide +kernel
theorem dX4_gets_31 : decode cX4_gets 31 = .ok (.lconst 0, 1) := by decide +kernel
theorem dX4_gets_32 : decode cX4_gets 32 = .ok (.lstore 5, 2) := by decide +kernel
theorem dX4_gets_34 : decode cX4_gets 34 = .ok (.iconst 0, 1) := by decide +kernel
theorem dX4_gets_35 : decode cX4_gets 35 = .ok (.istore 7, 2) := by decide +kernel
theorem dX4_gets_37 : decode cX4_gets 37 = .ok (.iload 7, 2) := by decide +kernel
theorem dX4_gets_39 : decode cX4_gets 39 = .ok (.aload_n 0, 1) := by decide +kernel
theorem dX4_gets_40 : decode cX4_gets 40 = .ok (.getfield 52, 3) := by decide +kernel
theorem dX4_gets_43 : decode cX4_gets 43 = .ok (.if_icmp .ge 42, 3) := by decide +kernel
theorem dX4_gets_46 : decode cX4_gets 46 = .ok (.lload_n 3, 1) := by decide +kernel
theorem dX4_gets_47 : decode cX4_gets 47 = .ok (.lconst 0, 1) := by decide +kernel
theorem dX4_gets_48 : decode cX4_gets 48 = .ok (.lcmp, 1) := by decide +kernel
theorem dX4_gets_49 : decode cX4_gets 49 = .ok (.ifCond .lt 36, 3) := by decide +kernel
theorem dX4_gets_52 : decode cX4_gets 52 = .ok (.lload_n 3, 1) := by decide +kernel
theorem dX4_gets_53 : decode cX4_gets 53 = .ok (.iload 7, 2) := by decide +kernel
theorem dX4_gets_55 : decode cX4_gets 55 = .ok (.lshr, 1) := by decide +kernel
theorem dX4_gets_56 : decode cX4_gets 56 = .ok (.lconst 1, 1) := by decide +kernel
theorem dX4_gets_57 : decode cX4_gets 57 = .ok (.land, 1) := by decide +kernel
theorem dX4_gets_58 : decode cX4_gets 58 = .ok (.lconst 1, 1) := by decide +kernel
theorem dX4_gets_59 : decode cX4_gets 59 = .ok (.lcmp, 1) := by decide +kernel
theorem dX4_gets_60 : decode cX4_gets 60 = .ok (.ifCond .ne 19, 3) := by decide +kernel
theorem dX4_gets_63 : decode cX4_gets 63 = .ok (.lload 5, 2) := by decide +kernel
theorem dX4_gets_65 : decode cX4_gets 65 = .ok (.aload_n 0, 1) := by decide +kernel
theorem dX4_gets_66 : decode cX4_gets 66 = .ok (.aload_n 0, 1) := by decide +kernel
theorem dX4_gets_67 : decode cX4_gets 67 = .ok (.getfield 46, 3) := by decide +kernel
theorem dX4_gets_70 : decode cX4_gets 70 = .ok (.iload 7, 2) := by decide +kernel
theorem dX4_gets_72 : decode cX4_gets 72 = .ok (.iaload, 1) := by decide +kernel
theorem dX4_gets_73 : decode cX4_gets 73 = .ok (.invokevirtual 112, 3) := by decide +kernel
theorem dX4_gets_76 : decode cX4_gets 76 = .ok (.lxor, 1) := by decide +kernel
theorem dX4_gets_77 : decode cX4_gets 77 = .ok (.lstore 5, 2) := by decide +kernel
theorem dX4_gets_79 : decode cX4_gets 79 = .ok (.iinc 7 1, 3) := by decide +kernel
theorem dX4_gets_82 : decode cX4_gets 82 = .ok (.goto (-45), 3) := by decide +kernel
theorem dX4_gets_85 : decode cX4_gets 85 = .ok (.lload 5, 2) := by decide +kernel
theorem dX4_gets_87 : decode cX4_gets 87 = .ok (.lreturn, 1) := by decide +kernel
theorem dX4_isEven_0 : decode cX4_isEven 0 = .ok (.iconst 0, 1) := by decide +kernel
theorem dX4_isEven_1 : decode cX4_isEven 1 = .ok (.istore_n 2, 1) := by decide +kernel
theorem dX4_isEven_2 : decode cX4_isEven 2 = .ok (.iload_n 1, 1) := by decide +kernel
theorem dX4_isEven_3 : decode cX4_isEven 3 = .ok (.istore_n 3, 1) := by decide +kernel
theorem dX4_isEven_4 : decode cX4_isEven 4 = .ok (.iload_n 3, 1) := by decide +kernel
theorem dX4_isEven_5 : decode cX4_isEven 5 = .ok (.ifCond .eq 22, 3) := by decide +kernel
theorem dX4_isEven_8 : decode cX4_isEven 8 = .ok (.iload_n 2, 1) := by decide +kernel
theorem dX4_isEven_9 : decode cX4_isEven 9 = .ok (.ifCond .ne 7, 3) := by decide +kernel
theorem dX4_isEven_12 : decode cX4_isEven 12 = .ok (.iconst 1, 1) := by decide +kernel
theorem dX4_isEven_13 : decode cX4_isEven 13 = .ok (.goto 4, 3) := by decide +kernel
theorem dX4_isEven_16 : decode cX4_isEven 16 = .ok (.iconst 0, 1) := by decide +kernel
theorem dX4_isEven_17 : decode cX4_isEven 17 = .ok (.istore_n 2, 1) := by decide +kernel
theorem dX4_isEven_18 : decode cX4_isEven 18 = .ok (.iload_n 3, 1) := by decide +kernel
theorem dX4_isEven_19 : decode cX4_isEven 19 = .ok (.iload_n 3, 1) := by decide +kernel
theorem dX4_isEven_20 : decode cX4_isEven 20 = .ok (.iconst 1, 1) := by decide +kernel
theorem dX4_isEven_21 : decode cX4_isEven 21 = .ok (.isub, 1) := by decide +kernel
theorem dX4_isEven_22 : decode cX4_isEven 22 = .ok (.iand, 1) := by decide +kernel
theorem dX4_isEven_23 : decode cX4_isEven 23 = .ok (.istore_n 3, 1) := by decide +kernel
theorem dX4_isEven_24 : decode cX4_isEven 24 = .ok (.goto (-20), 3) := by decide +kernel
theorem dX4_isEven_27 : decode cX4_isEven 27 = .ok (.iload_n 2, 1) := by decide +kernel
theorem dX4_isEven_28 : decode cX4_isEven 28 = .ok (.ifCond .ne 7, 3) := by decide +kernel
theorem dX4_isEven_31 : decode cX4_isEven 31 = .ok (.iconst 1, 1) := by decide +kernel
theorem dX4_isEven_32 : decode cX4_isEven 32 = .ok (.goto 4, 3) := by decide +kernel
theorem dX4_isEven_35 : decode cX4_isEven 35 = .ok (.iconst 0, 1) := by decide +kernel
theorem dX4_isEven_36 : decode cX4_isEven 36 = .ok (.ireturn, 1) := by decide +kernel
theorem dX4_lack_0 : decode cX4_lack 0 = .ok (.aload_n 0, 1) := by decide +kernel
theorem dX4_lack_1 : decode cX4_lack 1 = .ok (.iload_n 1, 1) := by decide +kernel
theorem dX4_lack_2 : decode cX4_lack 2 = .ok (.invokevirtual 92, 3) := by decide +kernel
theorem dX4_lack_5 : decode cX4_lack 5 = .ok (.ifCond .eq 11, 3) := by decide +kernel
theorem dX4_lack_8 : decode cX4_lack 8 = .ok (.aload_n 0, 1) := by decide +kernel
theorem dX4_lack_9 : decode cX4_lack 9 = .ok (.iload_n 2, 1) := by decide +kernel
theorem dX4_lack_10 : decode cX4_lack 10 = .ok (.invokevirtual 88, 3) := by decide +kernel
theorem dX4_lack_13 : decode cX4_lack 13 = .ok (.ifCond .ne 5, 3) := by decide +kernel
theorem dX4_lack_16 : decode cX4_lack 16 = .ok (.iconst (-1), 1) := by decide +kernel
theorem dX4_lack_17 : decode cX4_lack 17 = .ok (.ireturn, 1) := by decide +kernel
theorem dX4_lack_18 : decode cX4_lack 18 = .ok (.aload_n 0, 1) := by decide +kernel
theorem dX4_lack_19 : decode cX4_lack 19 = .ok (.iload_n 1, 1) := by decide +kernel
theorem dX4_lack_20 : decode cX4_lack 20 = .ok (.invokevirtual 120, 3) := by decide +kernel
theorem dX4_lack_23 : decode cX4_lack 23 = .ok (.aload_n 0, 1) := by decide +kernel
theorem dX4_lack_24 : decode cX4_lack 24 = .ok (.iload_n 1, 1) := by decide +kernel
theorem dX4_lack_25 : decode cX4_lack 25 = .ok (.iconst 1, 1) := by decide +kernel
theorem dX4_lack_26 : decode cX4_lack 26 = .ok (.iload_n 2, 1) := by decide +kernel
theorem dX4_lack_27 : decode cX4_lack 27 = .ok (.ishl, 1) := by decide +kernel
theorem dX4_lack_28 : decode cX4_lack 28 = .ok (.invokevirtual 124, 3) := by decide +kernel
theorem dX4_lack_31 : decode cX4_lack 31 = .ok (.ifCond .eq 5, 3) := by decide +kernel
theorem dX4_lack_34 : decode cX4_lack 34 = .ok (.iconst (-1), 1) := by decide +kernel
theorem dX4_lack_35 : decode cX4_lack 35 = .ok (.ireturn, 1) := by decide +kernel
theorem dX4_lack_36 : decode cX4_lack 36 = .ok (.iconst 1, 1) := by decide +kernel
theorem dX4_lack_37 : decode cX4_lack 37 = .ok (.istore_n 3, 1) := by decide +kernel
theorem dX4_lack_38 : decode cX4_lack 38 = .ok (.iload_n 3, 1) := by decide +kernel
theorem dX4_lack_39 : decode cX4_lack 39 = .ok (.iconst 1, 1) := by decide +kernel
theorem dX4_lack_40 : decode cX4_lack 40 = .ok (.aload_n 0, 1) := by decide +kernel
theorem dX4_lack_41 : decode cX4_lack 41 = .ok (.getfield 7, 3) := by decide +kernel
theorem dX4_lack_44 : decode cX4_lack 44 = .ok (.ishl, 1) := by decide +kernel
theorem dX4_lack_45 : decode cX4_lack 45 = .ok (.if_icmp .ge 70, 3) := by decide +kernel
theorem dX4_lack_48 : decode cX4_lack 48 = .ok (.iload_n 3, 1) := by decide +kernel
theorem dX4_lack_49 : decode cX4_lack 49 = .ok (.iload_n 2, 1) := by decide +kernel
theorem dX4_lack_50 : decode cX4_lack 50 = .ok (.ishr, 1) := by decide +kernel
theorem dX4_lack_51 : decode cX4_lack 51 = .ok (.iconst 1, 1) := by decide +kernel
theorem dX4_lack_52 : decode cX4_lack 52 = .ok (.iand, 1) := by decide +kernel
theorem dX4_lack_53 : decode cX4_lack 53 = .ok (.iconst 1, 1) := by decide +kernel
theorem dX4_lack_54 : decode cX4_lack 54 = .ok (.if_icmp .ne 7, 3) := by decide +kernel
theorem dX4_lack_57 : decode cX4_lack 57 = .ok (.iconst 1, 1) := by decide +kernel
theorem dX4_lack_58 : decode cX4_lack 58 = .ok (.goto 4, 3) := by decide +kernel
theorem dX4_lack_61 : decode cX4_lack 61 = .ok (.iconst 0, 1) := by decide +kernel
theorem dX4_lack_62 : decode cX4_lack 62 = .ok (.istore 4, 2) := by decide +kernel
theorem dX4_lack_64 : decode cX4_lack 64 = .ok (.iconst 0, 1) := by decide +kernel
theorem dX4_lack_65 : decode cX4_lack 65 = .ok (.istore 5, 2) := by decide +kernel
theorem dX4_lack_67 : decode cX4_lack 67 = .ok (.iload 5, 2) := by decide +kernel
theorem dX4_lack_69 : decode cX4_lack 69 = .ok (.aload_n 0, 1) := by decide +kernel
theorem dX4_lack_70 : decode cX4_lack 70 = .ok (.getfield 52, 3) := by decide +kernel
theorem dX4_lack_73 : decode cX4_lack 73 = .ok (.if_icmp .ge 29, 3) := by decide +kernel
theorem dX4_lack_76 : decode cX4_lack 76 = .ok (.iload 4, 2) := by decide +kernel
theorem dX4_lack_78 : decode cX4_lack 78 = .ok (.ifCond .eq 24, 3) := by decide +kernel
theorem dX4_lack_81 : decode cX4_lack 81 = .ok (.aload_n 0, 1) := by decide +kernel
theorem dX4_lack_82 : decode cX4_lack 82 = .ok (.iload_n 3, 1) := by decide +kernel
theorem dX4_lack_83 : decode cX4_lack 83 = .ok (.aload_n 0, 1) := by decide +kernel
theorem dX4_lack_84 : decode cX4_lack 84 = .ok (.getfield 46, 3) := by decide +kernel
theorem dX4_lack_87 : decode cX4_lack 87 = .ok (.iload 5, 2) := by decide +kernel
theorem dX4_lack_89 : decode cX4_lack 89 = .ok (.iaload, 1) := by decide +kernel
theorem dX4_lack_90 : decode cX4_lack 90 = .ok (.iand, 1) := by decide +kernel
theorem dX4_lack_91 : decode cX4_lack 91 = .ok (.invokevirtual 138, 3) := by decide +kernel
theorem dX4_lack_94 : decode cX4_lack 94 = .ok (.istore 4, 2) := by decide +kernel
theorem dX4_lack_96 : decode cX4_lack 96 = .ok (.iinc 5 1, 3) := by decide +kernel
theorem dX4_lack_99 : decode cX4_lack 99 = .ok (.goto (-32), 3) := by decide +kernel
theorem dX4_lack_102 : decode cX4_lack 102 = .ok (.iload 4, 2) := by decide +kernel
theorem dX4_lack_104 : decode cX4_lack 104 = .ok (.ifCond .eq 5, 3) := by decide +kernel
theorem dX4_lack_107 : decode cX4_lack 107 = .ok (.iload_n 3, 1) := by decide +kernel
theorem dX4_lack_108 : decode cX4_lack 108 = .ok (.ireturn, 1) := by decide +kernel
theorem dX4_lack_109 : decode cX4_lack 109 = .ok (.iinc 3 1, 3) := by decide +kernel
theorem dX4_lack_112 : decode cX4_lack 112 = .ok (.goto (-74), 3) := by decide +kernel
theorem dX4_lack_115 : decode cX4_lack 115 = .ok (.iconst (-1), 1) := by decide +kernel
theorem dX4_lack_116 : decode cX4_lack 116 = .ok (.ireturn, 1) := by decide +kernel
theorem dX4_served_0 : decode cX4_served 0 = .ok (.aload_n 0, 1) := by decide +kernel
theorem dX4_served_1 : decode cX4_served 1 = .ok (.invokevirtual 141, 3) := by decide +kernel
theorem dX4_served_4 : decode cX4_served 4 = .ok (.iconst 0, 1) := by decide +kernel
theorem dX4_served_5 : decode cX4_served 5 = .ok (.istore_n 1, 1) := by decide +kernel
theorem dX4_served_6 : decode cX4_served 6 = .ok (.iconst 0, 1) := by decide +kernel
theorem dX4_served_7 : decode cX4_served 7 = .ok (.istore_n 2, 1) := by decide +kernel
theorem dX4_served_8 : decode cX4_served 8 = .ok (.iload_n 2, 1) := by decide +kernel
theorem dX4_served_9 : decode cX4_served 9 = .ok (.aload_n 0, 1) := by decide +kernel
theorem dX4_served_10 : decode cX4_served 10 = .ok (.getfield 13, 3) := by decide +kernel
theorem dX4_served_13 : decode cX4_served 13 = .ok (.if_icmp .ge 26, 3) := by decide +kernel
theorem dX4_served_16 : decode cX4_served 16 = .ok (.iload_n 1, 1) := by decide +kernel
theorem dX4_served_17 : decode cX4_served 17 = .ok (.aload_n 0, 1) := by decide +kernel
theorem dX4_served_18 : decode cX4_served 18 = .ok (.iload_n 2, 1) := by decide +kernel
theorem dX4_served_19 : decode cX4_served 19 = .ok (.iconst 0, 1) := by decide +kernel
theorem dX4_served_20 : decode cX4_served 20 = .ok (.invokevirtual 130, 3) := by decide +kernel
theorem dX4_served_23 : decode cX4_served 23 = .ok (.ifCond .eq 7, 3) := by decide +kernel
theorem dX4_served_26 : decode cX4_served 26 = .ok (.iconst 1, 1) := by decide +kernel
theorem dX4_served_27 : decode cX4_served 27 = .ok (.goto 4, 3) := by decide +kernel
theorem dX4_served_30 : decode cX4_served 30 = .ok (.iconst 0, 1) := by decide +kernel
theorem dX4_served_31 : decode cX4_served 31 = .ok (.iadd, 1) := by decide +kernel
theorem dX4_served_32 : decode cX4_served 32 = .ok (.istore_n 1, 1) := by decide +kernel
theorem dX4_served_33 : decode cX4_served 33 = .ok (.iinc 2 1, 3) := by decide +kernel
theorem dX4_served_36 : decode cX4_served 36 = .ok (.goto (-28), 3) := by decide +kernel
theorem dX4_served_39 : decode cX4_served 39 = .ok (.iload_n 1, 1) := by decide +kernel
theorem dX4_served_40 : decode cX4_served 40 = .ok (.ireturn, 1) := by decide +kernel
theorem dX4_left_0 : decode cX4_left 0 = .ok (.aload_n 0, 1) := by decide +kernel
theorem dX4_left_1 : decode cX4_left 1 = .ok (.getfield 13, 3) := by decide +kernel
theorem dX4_left_4 : decode cX4_left 4 = .ok (.aload_n 0, 1) := by decide +kernel
theorem dX4_left_5 : decode cX4_left 5 = .ok (.invokevirtual 144, 3) := by decide +kernel
theorem dX4_left_8 : decode cX4_left 8 = .ok (.isub, 1) := by decide +kernel
theorem dX4_left_9 : decode cX4_left 9 = .ok (.ireturn, 1) := by decide +kernel
theorem dX4_findNeeds_0 : decode cX4_findNeeds 0 = .ok (.aload_n 0, 1) := by decide +kernel
theorem dX4_findNeeds_1 : decode cX4_findNeeds 1 = .ok (.invokevirtual 141, 3) := by decide +kernel
theorem dX4_findNeeds_4 : decode cX4_findNeeds 4 = .ok (.aload_n 0, 1) := by decide +kernel
theorem dX4_findNeeds_5 : decode cX4_findNeeds 5 = .ok (.iconst 0, 1) := by decide +kernel
theorem dX4_findNeeds_6 : decode cX4_findNeeds 6 = .ok (.putfield 73, 3) := by decide +kernel
theorem dX4_findNeeds_9 : decode cX4_findNeeds 9 = .ok (.iconst 0, 1) := by decide +kernel
theorem dX4_findNeeds_10 : decode cX4_findNeeds 10 = .ok (.istore_n 1, 1) := by decide +kernel
theorem dX4_findNeeds_11 : decode cX4_findNeeds 11 = .ok (.iload_n 1, 1) := by decide +kernel
theorem dX4_findNeeds_12 : decode cX4_findNeeds 12 = .ok (.aload_n 0, 1) := by decide +kernel
theorem dX4_findNeeds_13 : decode cX4_findNeeds 13 = .ok (.getfield 13, 3) := by decide +kernel
theorem dX4_findNeeds_16 : decode cX4_findNeeds 16 = .ok (.if_icmp .ge 92, 3) := by decide +kernel
theorem dX4_findNeeds_19 : decode cX4_findNeeds 19 = .ok (.iconst 0, 1) := by decide +kernel
theorem dX4_findNeeds_20 : decode cX4_findNeeds 20 = .ok (.istore_n 2, 1) := by decide +kernel
theorem dX4_findNeeds_21 : decode cX4_findNeeds 21 = .ok (.iload_n 2, 1) := by decide +kernel
theorem dX4_findNeeds_22 : decode cX4_findNeeds 22 = .ok (.aload_n 0, 1) := by decide +kernel
theorem dX4_findNeeds_23 : decode cX4_findNeeds 23 = .ok (.getfield 7, 3) := by decide +kernel
theorem dX4_findNeeds_26 : decode cX4_findNeeds 26 = .ok (.if_icmp .ge 76, 3) := by decide +kernel
theorem dX4_findNeeds_29 : decode cX4_findNeeds 29 = .ok (.aload_n 0, 1) := by decide +kernel
theorem dX4_findNeeds_30 : decode cX4_findNeeds 30 = .ok (.getfield 23, 3) := by decide +kernel
theorem dX4_findNeeds_33 : decode cX4_findNeeds 33 = .ok (.iload_n 1, 1) := by decide +kernel
theorem dX4_findNeeds_34 : decode cX4_findNeeds 34 = .ok (.iaload, 1) := by decide +kernel
theorem dX4_findNeeds_35 : decode cX4_findNeeds 35 = .ok (.iconst 2, 1) := by decide +kernel
theorem dX4_findNeeds_36 : decode cX4_findNeeds 36 = .ok (.if_icmp .eq 60, 3) := by decide +kernel
theorem dX4_findNeeds_39 : decode cX4_findNeeds 39 = .ok (.aload_n 0, 1) := by decide +kernel
theorem dX4_findNeeds_40 : decode cX4_findNeeds 40 = .ok (.getfield 27, 3) := by decide +kernel
theorem dX4_findNeeds_43 : decode cX4_findNeeds 43 = .ok (.iload_n 1, 1) := by decide +kernel
theorem dX4_findNeeds_44 : decode cX4_findNeeds 44 = .ok (.iaload, 1) := by decide +kernel
theorem dX4_findNeeds_45 : decode cX4_findNeeds 45 = .ok (.iload_n 2, 1) := by decide +kernel
theorem dX4_findNeeds_46 : decode cX4_findNeeds 46 = .ok (.ishr, 1) := by decide +kernel
theorem dX4_findNeeds_47 : decode cX4_findNeeds 47 = .ok (.iconst 1, 1) := by decide +kernel
theorem dX4_findNeeds_48 : decode cX4_findNeeds 48 = .ok (.iand, 1) := by decide +kernel
theorem dX4_findNeeds_49 : decode cX4_findNeeds 49 = .ok (.ifCond .eq 47, 3) := by decide +kernel
theorem dX4_findNeeds_52 : decode cX4_findNeeds 52 = .ok (.aload_n 0, 1) := by decide +kernel
theorem dX4_findNeeds_53 : decode cX4_findNeeds 53 = .ok (.iload_n 1, 1) := by decide +kernel
theorem dX4_findNeeds_54 : decode cX4_findNeeds 54 = .ok (.iconst 1, 1) := by decide +kernel
theorem dX4_findNeeds_55 : decode cX4_findNeeds 55 = .ok (.iload_n 2, 1) := by decide +kernel
theorem dX4_findNeeds_56 : decode cX4_findNeeds 56 = .ok (.ishl, 1) := by decide +kernel
theorem dX4_findNeeds_57 : decode cX4_findNeeds 57 = .ok (.invokevirtual 124, 3) := by decide +kernel
theorem dX4_findNeeds_60 : decode cX4_findNeeds 60 = .ok (.ifCond .eq 6, 3) := by decide +kernel
theorem dX4_findNeeds_63 : decode cX4_findNeeds 63 = .ok (.goto 33, 3) := by decide +kernel
theorem dX4_findNeeds_66 : decode cX4_findNeeds 66 = .ok (.aload_n 0, 1) := by decide +kernel
theorem dX4_findNeeds_67 : decode cX4_findNeeds 67 = .ok (.getfield 67, 3) := by decide +kernel
theorem dX4_findNeeds_70 : decode cX4_findNeeds 70 = .ok (.aload_n 0, 1) := by decide +kernel
theorem dX4_findNeeds_71 : decode cX4_findNeeds 71 = .ok (.getfield 73, 3) := by decide +kernel
theorem dX4_findNeeds_74 : decode cX4_findNeeds 74 = .ok (.iload_n 1, 1) := by decide +kernel
theorem dX4_findNeeds_75 : decode cX4_findNeeds 75 = .ok (.iastore, 1) := by decide +kernel
theorem dX4_findNeeds_76 : decode cX4_findNeeds 76 = .ok (.aload_n 0, 1) := by decide +kernel
theorem dX4_findNeeds_77 : decode cX4_findNeeds 77 = .ok (.getfield 70, 3) := by decide +kernel
theorem dX4_findNeeds_80 : decode cX4_findNeeds 80 = .ok (.aload_n 0, 1) := by decide +kernel
theorem dX4_findNeeds_81 : decode cX4_findNeeds 81 = .ok (.getfield 73, 3) := by decide +kernel
theorem dX4_findNeeds_84 : decode cX4_findNeeds 84 = .ok (.iload_n 2, 1) := by decide +kernel
theorem dX4_findNeeds_85 : decode cX4_findNeeds 85 = .ok (.iastore, 1) := by decide +kernel
theorem dX4_findNeeds_86 : decode cX4_findNeeds 86 = .ok (.aload_n 0, 1) := by decide +kernel
theorem dX4_findNeeds_87 : decode cX4_findNeeds 87 = .ok (.dup, 1) := by decide +kernel
theorem dX4_findNeeds_88 : decode cX4_findNeeds 88 = .ok (.getfield 73, 3) := by decide +kernel
theorem dX4_findNeeds_91 : decode cX4_findNeeds 91 = .ok (.iconst 1, 1) := by decide +kernel
theorem dX4_findNeeds_92 : decode cX4_findNeeds 92 = .ok (.iadd, 1) := by decide +kernel
theorem dX4_findNeeds_93 : decode cX4_findNeeds 93 = .ok (.putfield 73, 3) := by decide +kernel
theorem dX4_findNeeds_96 : decode cX4_findNeeds 96 = .ok (.iinc 2 1, 3) := by decide +kernel
theorem dX4_findNeeds_99 : decode cX4_findNeeds 99 = .ok (.goto (-78), 3) := by decide +kernel
theorem dX4_findNeeds_102 : decode cX4_findNeeds 102 = .ok (.iinc 1 1, 3) := by decide +kernel
theorem dX4_findNeeds_105 : decode cX4_findNeeds 105 = .ok (.goto (-94), 3) := by decide +kernel
theorem dX4_findNeeds_108 : decode cX4_findNeeds 108 = .ok (.return_, 1) := by decide +kernel
theorem dX4_needs_0 : decode cX4_needs 0 = .ok (.aload_n 0, 1) := by decide +kernel
theorem dX4_needs_1 : decode cX4_needs 1 = .ok (.invokevirtual 148, 3) := by decide +kernel
theorem dX4_needs_4 : decode cX4_needs 4 = .ok (.aload_n 0, 1) := by decide +kernel
theorem dX4_needs_5 : decode cX4_needs 5 = .ok (.getfield 73, 3) := by decide +kernel
theorem dX4_needs_8 : decode cX4_needs 8 = .ok (.ireturn, 1) := by decide +kernel
theorem dX4_need_0 : decode cX4_need 0 = .ok (.aload_n 0, 1) := by decide +kernel
theorem dX4_need_1 : decode cX4_need 1 = .ok (.invokevirtual 148, 3) := by decide +kernel
theorem dX4_need_4 : decode cX4_need 4 = .ok (.iload_n 1, 1) := by decide +kernel
theorem dX4_need_5 : decode cX4_need 5 = .ok (.ifCond .lt 20, 3) := by decide +kernel
theorem dX4_need_8 : decode cX4_need 8 = .ok (.iload_n 1, 1) := by decide +kernel
theorem dX4_need_9 : decode cX4_need 9 = .ok (.aload_n 0, 1) := by decide +kernel
theorem dX4_need_10 : decode cX4_need 10 = .ok (.getfield 73, 3) := by decide +kernel
theorem dX4_need_13 : decode cX4_need 13 = .ok (.if_icmp .ge 12, 3) := by decide +kernel
theorem dX4_need_16 : decode cX4_need 16 = .ok (.iload_n 2, 1) := by decide +kernel
theorem dX4_need_17 : decode cX4_need 17 = .ok (.ifCond .lt 8, 3) := by decide +kernel
theorem dX4_need_20 : decode cX4_need 20 = .ok (.iload_n 2, 1) := by decide +kernel
theorem dX4_need_21 : decode cX4_need 21 = .ok (.iconst 1, 1) := by decide +kernel
theorem dX4_need_22 : decode cX4_need 22 = .ok (.if_icmp .le 5, 3) := by decide +kernel
theorem dX4_need_25 : decode cX4_need 25 = .ok (.iconst (-1), 1) := by decide +kernel
theorem dX4_need_26 : decode cX4_need 26 = .ok (.ireturn, 1) := by decide +kernel
theorem dX4_need_27 : decode cX4_need 27 = .ok (.iload_n 2, 1) := by decide +kernel
theorem dX4_need_28 : decode cX4_need 28 = .ok (.ifCond .ne 12, 3) := by decide +kernel
theorem dX4_need_31 : decode cX4_need 31 = .ok (.aload_n 0, 1) := by decide +kernel
theorem dX4_need_32 : decode cX4_need 32 = .ok (.getfield 67, 3) := by decide +kernel
theorem dX4_need_35 : decode cX4_need 35 = .ok (.iload_n 1, 1) := by decide +kernel
theorem dX4_need_36 : decode cX4_need 36 = .ok (.iaload, 1) := by decide +kernel
theorem dX4_need_37 : decode cX4_need 37 = .ok (.goto 9, 3) := by decide +kernel
theorem dX4_need_40 : decode cX4_need 40 = .ok (.aload_n 0, 1) := by decide +kernel
theorem dX4_need_41 : decode cX4_need 41 = .ok (.getfield 70, 3) := by decide +kernel
theorem dX4_need_44 : decode cX4_need 44 = .ok (.iload_n 1, 1) := by decide +kernel
theorem dX4_need_45 : decode cX4_need 45 = .ok (.iaload, 1) := by decide +kernel
theorem dX4_need_46 : decode cX4_need 46 = .ok (.ireturn, 1) := by decide +kernel
theorem dX4_mayFollow_0 : decode cX4_mayFollow 0 = .ok (.iload_n 1, 1) := by decide +kernel
theorem dX4_mayFollow_1 : decode cX4_mayFollow 1 = .ok (.iload_n 2, 1) := by decide +kernel
theorem dX4_mayFollow_2 : decode cX4_mayFollow 2 = .ok (.if_icmp .eq 43, 3) := by decide +kernel
theorem dX4_mayFollow_5 : decode cX4_mayFollow 5 = .ok (.aload_n 0, 1) := by decide +kernel
theorem dX4_mayFollow_6 : decode cX4_mayFollow 6 = .ok (.getfield 70, 3) := by decide +kernel
theorem dX4_mayFollow_9 : decode cX4_mayFollow 9 = .ok (.iload_n 1, 1) := by decide +kernel
theorem dX4_mayFollow_10 : decode cX4_mayFollow 10 = .ok (.iaload, 1) := by decide +kernel
theorem dX4_mayFollow_11 : decode cX4_mayFollow 11 = .ok (.aload_n 0, 1) := by decide +kernel
theorem dX4_mayFollow_12 : decode cX4_mayFollow 12 = .ok (.getfield 70, 3) := by decide +kernel
theorem dX4_mayFollow_15 : decode cX4_mayFollow 15 = .ok (.iload_n 2, 1) := by decide +kernel
theorem dX4_mayFollow_16 : decode cX4_mayFollow 16 = .ok (.iaload, 1) := by decide +kernel
theorem dX4_mayFollow_17 : decode cX4_mayFollow 17 = .ok (.if_icmp .eq 28, 3) := by decide +kernel
theorem dX4_mayFollow_20 : decode cX4_mayFollow 20 = .ok (.aload_n 0, 1) := by decide +kernel
theorem dX4_mayFollow_21 : decode cX4_mayFollow 21 = .ok (.aload_n 0, 1) := by decide +kernel
theorem dX4_mayFollow_22 : decode cX4_mayFollow 22 = .ok (.getfield 67, 3) := by decide +kernel
theorem dX4_mayFollow_25 : decode cX4_mayFollow 25 = .ok (.iload_n 1, 1) := by decide +kernel
theorem dX4_mayFollow_26 : decode cX4_mayFollow 26 = .ok (.iaload, 1) := by decide +kernel
theorem dX4_mayFollow_27 : decode cX4_mayFollow 27 = .ok (.iconst 1, 1) := by decide +kernel
theorem dX4_mayFollow_28 : decode cX4_mayFollow 28 = .ok (.aload_n 0, 1) := by decide +kernel
theorem dX4_mayFollow_29 : decode cX4_mayFollow 29 = .ok (.getfield 70, 3) := by decide +kernel
theorem dX4_mayFollow_32 : decode cX4_mayFollow 32 = .ok (.iload_n 2, 1) := by decide +kernel
theorem dX4_mayFollow_33 : decode cX4_mayFollow 33 = .ok (.iaload, 1) := by decide +kernel
theorem dX4_mayFollow_34 : decode cX4_mayFollow 34 = .ok (.ishl, 1) := by decide +kernel
theorem dX4_mayFollow_35 : decode cX4_mayFollow 35 = .ok (.invokevirtual 124, 3) := by decide +kernel
theorem dX4_mayFollow_38 : decode cX4_mayFollow 38 = .ok (.ifCond .ne 7, 3) := by decide +kernel
theorem dX4_mayFollow_41 : decode cX4_mayFollow 41 = .ok (.iconst 1, 1) := by decide +kernel
theorem dX4_mayFollow_42 : decode cX4_mayFollow 42 = .ok (.goto 4, 3) := by decide +kernel
theorem dX4_mayFollow_45 : decode cX4_mayFollow 45 = .ok (.iconst 0, 1) := by decide +kernel
theorem dX4_mayFollow_46 : decode cX4_mayFollow 46 = .ok (.ireturn, 1) := by decide +kernel
theorem dX4_behind_0 : decode cX4_behind 0 = .ok (.iconst 0, 1) := by decide +kernel
theorem dX4_behind_1 : decode cX4_behind 1 = .ok (.istore_n 3, 1) := by decide +kernel
theorem dX4_behind_2 : decode cX4_behind 2 = .ok (.iconst 0, 1) := by decide +kernel
theorem dX4_behind_3 : decode cX4_behind 3 = .ok (.istore 4, 2) := by decide +kernel
theorem dX4_behind_5 : decode cX4_behind 5 = .ok (.iload 4, 2) := by decide +kernel
theorem dX4_behind_7 : decode cX4_behind 7 = .ok (.aload_n 0, 1) := by decide +kernel
theorem dX4_behind_8 : decode cX4_behind 8 = .ok (.getfield 73, 3) := by decide +kernel
theorem dX4_behind_11 : decode cX4_behind 11 = .ok (.if_icmp .ge 36, 3) := by decide +kernel
theorem dX4_behind_14 : decode cX4_behind 14 = .ok (.iload_n 1, 1) := by decide +kernel
theorem dX4_behind_15 : decode cX4_behind 15 = .ok (.iload 4, 2) := by decide +kernel
theorem dX4_behind_17 : decode cX4_behind 17 = .ok (.ishr, 1) := by decide +kernel
theorem dX4_behind_18 : decode cX4_behind 18 = .ok (.iconst 1, 1) := by decide +kernel
theorem dX4_behind_19 : decode cX4_behind 19 = .ok (.iand, 1) := by decide +kernel
theorem dX4_behind_20 : decode cX4_behind 20 = .ok (.iconst 1, 1) := by decide +kernel
theorem dX4_behind_21 : decode cX4_behind 21 = .ok (.if_icmp .ne 20, 3) := by decide +kernel
theorem dX4_behind_24 : decode cX4_behind 24 = .ok (.aload_n 0, 1) := by decide +kernel
theorem dX4_behind_25 : decode cX4_behind 25 = .ok (.iload_n 2, 1) := by decide +kernel
theorem dX4_behind_26 : decode cX4_behind 26 = .ok (.iload 4, 2) := by decide +kernel
theorem dX4_behind_28 : decode cX4_behind 28 = .ok (.invokevirtual 151, 3) := by decide +kernel
theorem dX4_behind_31 : decode cX4_behind 31 = .ok (.ifCond .eq 10, 3) := by decide +kernel
theorem dX4_behind_34 : decode cX4_behind 34 = .ok (.iload_n 3, 1) := by decide +kernel
theorem dX4_behind_35 : decode cX4_behind 35 = .ok (.iconst 1, 1) := by decide +kernel
theorem dX4_behind_36 : decode cX4_behind 36 = .ok (.iload 4, 2) := by decide +kernel
theorem dX4_behind_38 : decode cX4_behind 38 = .ok (.ishl, 1) := by decide +kernel
theorem dX4_behind_39 : decode cX4_behind 39 = .ok (.ior, 1) := by decide +kernel
theorem dX4_behind_40 : decode cX4_behind 40 = .ok (.istore_n 3, 1) := by decide +kernel
theorem dX4_behind_41 : decode cX4_behind 41 = .ok (.iinc 4 1, 3) := by decide +kernel
theorem dX4_behind_44 : decode cX4_behind 44 = .ok (.goto (-39), 3) := by decide +kernel
theorem dX4_behind_47 : decode cX4_behind 47 = .ok (.iload_n 3, 1) := by decide +kernel
theorem dX4_behind_48 : decode cX4_behind 48 = .ok (.ireturn, 1) := by decide +kernel
theorem dX4_orders_0 : decode cX4_orders 0 = .ok (.iconst 0, 1) := by decide +kernel
theorem dX4_orders_1 : decode cX4_orders 1 = .ok (.istore_n 1, 1) := by decide +kernel
theorem dX4_orders_2 : decode cX4_orders 2 = .ok (.iload_n 1, 1) := by decide +kernel
theorem dX4_orders_3 : decode cX4_orders 3 = .ok (.iconst 1, 1) := by decide +kernel
theorem dX4_orders_4 : decode cX4_orders 4 = .ok (.aload_n 0, 1) := by decide +kernel
theorem dX4_orders_5 : decode cX4_orders 5 = .ok (.getfield 73, 3) := by decide +kernel
theorem dX4_orders_8 : decode cX4_orders 8 = .ok (.ishl, 1) := by decide +kernel
theorem dX4_orders_9 : decode cX4_orders 9 = .ok (.if_icmp .ge 83, 3) := by decide +kernel
theorem dX4_orders_12 : decode cX4_orders 12 = .ok (.aload_n 0, 1) := by decide +kernel
theorem dX4_orders_13 : decode cX4_orders 13 = .ok (.getfield 76, 3) := by decide +kernel
theorem dX4_orders_16 : decode cX4_orders 16 = .ok (.iload_n 1, 1) := by decide +kernel
theorem dX4_orders_17 : decode cX4_orders 17 = .ok (.iconst 0, 1) := by decide +kernel
theorem dX4_orders_18 : decode cX4_orders 18 = .ok (.iastore, 1) := by decide +kernel
theorem dX4_orders_19 : decode cX4_orders 19 = .ok (.iconst 0, 1) := by decide +kernel
theorem dX4_orders_20 : decode cX4_orders 20 = .ok (.istore_n 2, 1) := by decide +kernel
theorem dX4_orders_21 : decode cX4_orders 21 = .ok (.iload_n 2, 1) := by decide +kernel
theorem dX4_orders_22 : decode cX4_orders 22 = .ok (.aload_n 0, 1) := by decide +kernel
theorem dX4_orders_23 : decode cX4_orders 23 = .ok (.getfield 73, 3) := by decide +kernel
theorem dX4_orders_26 : decode cX4_orders 26 = .ok (.if_icmp .ge 60, 3) := by decide +kernel
theorem dX4_orders_29 : decode cX4_orders 29 = .ok (.iload_n 1, 1) := by decide +kernel
theorem dX4_orders_30 : decode cX4_orders 30 = .ok (.iload_n 2, 1) := by decide +kernel
theorem dX4_orders_31 : decode cX4_orders 31 = .ok (.ishr, 1) := by decide +kernel
theorem dX4_orders_32 : decode cX4_orders 32 = .ok (.iconst 1, 1) := by decide +kernel
theorem dX4_orders_33 : decode cX4_orders 33 = .ok (.iand, 1) := by decide +kernel
theorem dX4_orders_34 : decode cX4_orders 34 = .ok (.ifCond .ne 6, 3) := by decide +kernel
theorem dX4_orders_37 : decode cX4_orders 37 = .ok (.goto 43, 3) := by decide +kernel
theorem dX4_orders_40 : decode cX4_orders 40 = .ok (.iconst 1, 1) := by decide +kernel
theorem dX4_orders_41 : decode cX4_orders 41 = .ok (.aload_n 0, 1) := by decide +kernel
theorem dX4_orders_42 : decode cX4_orders 42 = .ok (.getfield 76, 3) := by decide +kernel
theorem dX4_orders_45 : decode cX4_orders 45 = .ok (.aload_n 0, 1) := by decide +kernel
theorem dX4_orders_46 : decode cX4_orders 46 = .ok (.iload_n 1, 1) := by decide +kernel
theorem dX4_orders_47 : decode cX4_orders 47 = .ok (.iload_n 2, 1) := by decide +kernel
theorem dX4_orders_48 : decode cX4_orders 48 = .ok (.invokevirtual 154, 3) := by decide +kernel
theorem dX4_orders_51 : decode cX4_orders 51 = .ok (.iaload, 1) := by decide +kernel
theorem dX4_orders_52 : decode cX4_orders 52 = .ok (.iadd, 1) := by decide +kernel
theorem dX4_orders_53 : decode cX4_orders 53 = .ok (.istore_n 3, 1) := by decide +kernel
theorem dX4_orders_54 : decode cX4_orders 54 = .ok (.aload_n 0, 1) := by decide +kernel
theorem dX4_orders_55 : decode cX4_orders 55 = .ok (.getfield 76, 3) := by decide +kernel
theorem dX4_orders_58 : decode cX4_orders 58 = .ok (.iload_n 1, 1) := by decide +kernel
theorem dX4_orders_59 : decode cX4_orders 59 = .ok (.iload_n 3, 1) := by decide +kernel
theorem dX4_orders_60 : decode cX4_orders 60 = .ok (.aload_n 0, 1) := by decide +kernel
theorem dX4_orders_61 : decode cX4_orders 61 = .ok (.getfield 76, 3) := by decide +kernel
theorem dX4_orders_64 : decode cX4_orders 64 = .ok (.iload_n 1, 1) := by decide +kernel
theorem dX4_orders_65 : decode cX4_orders 65 = .ok (.iaload, 1) := by decide +kernel
theorem dX4_orders_66 : decode cX4_orders 66 = .ok (.if_icmp .le 7, 3) := by decide +kernel
theorem dX4_orders_69 : decode cX4_orders 69 = .ok (.iload_n 3, 1) := by decide +kernel
theorem dX4_orders_70 : decode cX4_orders 70 = .ok (.goto 9, 3) := by decide +kernel
theorem dX4_orders_73 : decode cX4_orders 73 = .ok (.aload_n 0, 1) := by decide +kernel
theorem dX4_orders_74 : decode cX4_orders 74 = .ok (.getfield 76, 3) := by decide +kernel
theorem dX4_orders_77 : decode cX4_orders 77 = .ok (.iload_n 1, 1) := by decide +kernel
theorem dX4_orders_78 : decode cX4_orders 78 = .ok (.iaload, 1) := by decide +kernel
theorem dX4_orders_79 : decode cX4_orders 79 = .ok (.iastore, 1) := by decide +kernel
theorem dX4_orders_80 : decode cX4_orders 80 = .ok (.iinc 2 1, 3) := by decide +kernel
theorem dX4_orders_83 : decode cX4_orders 83 = .ok (.goto (-62), 3) := by decide +kernel
theorem dX4_orders_86 : decode cX4_orders 86 = .ok (.iinc 1 1, 3) := by decide +kernel
theorem dX4_orders_89 : decode cX4_orders 89 = .ok (.goto (-87), 3) := by decide +kernel
theorem dX4_orders_92 : decode cX4_orders 92 = .ok (.return_, 1) := by decide +kernel
theorem dX4_below_0 : decode cX4_below 0 = .ok (.aload_n 0, 1) := by decide +kernel
theorem dX4_below_1 : decode cX4_below 1 = .ok (.invokevirtual 148, 3) := by decide +kernel
theorem dX4_below_4 : decode cX4_below 4 = .ok (.aload_n 0, 1) := by decide +kernel
theorem dX4_below_5 : decode cX4_below 5 = .ok (.getfield 73, 3) := by decide +kernel
theorem dX4_below_8 : decode cX4_below 8 = .ok (.bipush 10, 2) := by decide +kernel
theorem dX4_below_10 : decode cX4_below 10 = .ok (.if_icmp .le 6, 3) := by decide +kernel
theorem dX4_below_13 : decode cX4_below 13 = .ok (.bipush (-5), 2) := by decide +kernel
theorem dX4_below_15 : decode cX4_below 15 = .ok (.ireturn, 1) := by decide +kernel
theorem dX4_below_16 : decode cX4_below 16 = .ok (.aload_n 0, 1) := by decide +kernel
theorem dX4_below_17 : decode cX4_below 17 = .ok (.invokevirtual 158, 3) := by decide +kernel
theorem dX4_below_20 : decode cX4_below 20 = .ok (.aload_n 0, 1) := by decide +kernel
theorem dX4_below_21 : decode cX4_below 21 = .ok (.getfield 76, 3) := by decide +kernel
theorem dX4_below_24 : decode cX4_below 24 = .ok (.iconst 1, 1) := by decide +kernel
theorem dX4_below_25 : decode cX4_below 25 = .ok (.aload_n 0, 1) := by decide +kernel
theorem dX4_below_26 : decode cX4_below 26 = .ok (.getfield 73, 3) := by decide +kernel
theorem dX4_below_29 : decode cX4_below 29 = .ok (.ishl, 1) := by decide +kernel
theorem dX4_below_30 : decode cX4_below 30 = .ok (.iconst 1, 1) := by decide +kernel
theorem dX4_below_31 : decode cX4_below 31 = .ok (.isub, 1) := by decide +kernel
theorem dX4_below_32 : decode cX4_below 32 = .ok (.iaload, 1) := by decide +kernel
theorem dX4_below_33 : decode cX4_below 33 = .ok (.ireturn, 1) := by decide +kernel
theorem dX4_order_0 : decode cX4_order 0 = .ok (.aload_n 0, 1) := by decide +kernel
theorem dX4_order_1 : decode cX4_order 1 = .ok (.invokevirtual 148, 3) := by decide +kernel
theorem dX4_order_4 : decode cX4_order 4 = .ok (.aload_n 0, 1) := by decide +kernel
theorem dX4_order_5 : decode cX4_order 5 = .ok (.getfield 73, 3) := by decide +kernel
theorem dX4_order_8 : decode cX4_order 8 = .ok (.bipush 10, 2) := by decide +kernel
theorem dX4_order_10 : decode cX4_order 10 = .ok (.if_icmp .gt 7, 3) := by decide +kernel
theorem dX4_order_13 : decode cX4_order 13 = .ok (.iload_n 1, 1) := by decide +kernel
theorem dX4_order_14 : decode cX4_order 14 = .ok (.ifCond .ge 5, 3) := by decide +kernel
theorem dX4_order_17 : decode cX4_order 17 = .ok (.iconst (-1), 1) := by decide +kernel
theorem dX4_order_18 : decode cX4_order 18 = .ok (.ireturn, 1) := by decide +kernel
theorem dX4_order_19 : decode cX4_order 19 = .ok (.aload_n 0, 1) := by decide +kernel
theorem dX4_order_20 : decode cX4_order 20 = .ok (.invokevirtual 158, 3) := by decide +kernel
theorem dX4_order_23 : decode cX4_order 23 = .ok (.iconst 1, 1) := by decide +kernel
theorem dX4_order_24 : decode cX4_order 24 = .ok (.aload_n 0, 1) := by decide +kernel
theorem dX4_order_25 : decode cX4_order 25 = .ok (.getfield 73, 3) := by decide +kernel
theorem dX4_order_28 : decode cX4_order 28 = .ok (.ishl, 1) := by decide +kernel
theorem dX4_order_29 : decode cX4_order 29 = .ok (.iconst 1, 1) := by decide +kernel
theorem dX4_order_30 : decode cX4_order 30 = .ok (.isub, 1) := by decide +kernel
theorem dX4_order_31 : decode cX4_order 31 = .ok (.istore_n 2, 1) := by decide +kernel
theorem dX4_order_32 : decode cX4_order 32 = .ok (.iload_n 1, 1) := by decide +kernel
theorem dX4_order_33 : decode cX4_order 33 = .ok (.istore_n 3, 1) := by decide +kernel
theorem dX4_order_34 : decode cX4_order 34 = .ok (.aload_n 0, 1) := by decide +kernel
theorem dX4_order_35 : decode cX4_order 35 = .ok (.getfield 76, 3) := by decide +kernel
theorem dX4_order_38 : decode cX4_order 38 = .ok (.iload_n 2, 1) := by decide +kernel
theorem dX4_order_39 : decode cX4_order 39 = .ok (.iaload, 1) := by decide +kernel
theorem dX4_order_40 : decode cX4_order 40 = .ok (.ifCond .le 65, 3) := by decide +kernel
theorem dX4_order_43 : decode cX4_order 43 = .ok (.iconst 0, 1) := by decide +kernel
theorem dX4_order_44 : decode cX4_order 44 = .ok (.istore 4, 2) := by decide +kernel
theorem dX4_order_46 : decode cX4_order 46 = .ok (.iload_n 2, 1) := by decide +kernel
theorem dX4_order_47 : decode cX4_order 47 = .ok (.iload 4, 2) := by decide +kernel
theorem dX4_order_49 : decode cX4_order 49 = .ok (.ishr, 1) := by decide +kernel
theorem dX4_order_50 : decode cX4_order 50 = .ok (.iconst 1, 1) := by decide +kernel
theorem dX4_order_51 : decode cX4_order 51 = .ok (.iand, 1) := by decide +kernel
theorem dX4_order_52 : decode cX4_order 52 = .ok (.ifCond .eq 26, 3) := by decide +kernel
theorem dX4_order_55 : decode cX4_order 55 = .ok (.iconst 1, 1) := by decide +kernel
theorem dX4_order_56 : decode cX4_order 56 = .ok (.aload_n 0, 1) := by decide +kernel
theorem dX4_order_57 : decode cX4_order 57 = .ok (.getfield 76, 3) := by decide +kernel
theorem dX4_order_60 : decode cX4_order 60 = .ok (.aload_n 0, 1) := by decide +kernel
theorem dX4_order_61 : decode cX4_order 61 = .ok (.iload_n 2, 1) := by decide +kernel
theorem dX4_order_62 : decode cX4_order 62 = .ok (.iload 4, 2) := by decide +kernel
theorem dX4_order_64 : decode cX4_order 64 = .ok (.invokevirtual 154, 3) := by decide +kernel
theorem dX4_order_67 : decode cX4_order 67 = .ok (.iaload, 1) := by decide +kernel
theorem dX4_order_68 : decode cX4_order 68 = .ok (.iadd, 1) := by decide +kernel
theorem dX4_order_69 : decode cX4_order 69 = .ok (.aload_n 0, 1) := by decide +kernel
theorem dX4_order_70 : decode cX4_order 70 = .ok (.getfield 76, 3) := by decide +kernel
theorem dX4_order_73 : decode cX4_order 73 = .ok (.iload_n 2, 1) := by decide +kernel
theorem dX4_order_74 : decode cX4_order 74 = .ok (.iaload, 1) := by decide +kernel
theorem dX4_order_75 : decode cX4_order 75 = .ok (.if_icmp .ge 9, 3) := by decide +kernel
theorem dX4_order_78 : decode cX4_order 78 = .ok (.iinc 4 1, 3) := by decide +kernel
theorem dX4_order_81 : decode cX4_order 81 = .ok (.goto (-35), 3) := by decide +kernel
theorem dX4_order_84 : decode cX4_order 84 = .ok (.iload_n 3, 1) := by decide +kernel
theorem dX4_order_85 : decode cX4_order 85 = .ok (.ifCond .ne 6, 3) := by decide +kernel
theorem dX4_order_88 : decode cX4_order 88 = .ok (.iload 4, 2) := by decide +kernel
theorem dX4_order_90 : decode cX4_order 90 = .ok (.ireturn, 1) := by decide +kernel
theorem dX4_order_91 : decode cX4_order 91 = .ok (.iinc 3 (-1), 3) := by decide +kernel
theorem dX4_order_94 : decode cX4_order 94 = .ok (.aload_n 0, 1) := by decide +kernel
theorem dX4_order_95 : decode cX4_order 95 = .ok (.iload_n 2, 1) := by decide +kernel
theorem dX4_order_96 : decode cX4_order 96 = .ok (.iload 4, 2) := by decide +kernel
theorem dX4_order_98 : decode cX4_order 98 = .ok (.invokevirtual 154, 3) := by decide +kernel
theorem dX4_order_101 : decode cX4_order 101 = .ok (.istore_n 2, 1) := by decide +kernel
theorem dX4_order_102 : decode cX4_order 102 = .ok (.goto (-68), 3) := by decide +kernel
theorem dX4_order_105 : decode cX4_order 105 = .ok (.iconst (-1), 1) := by decide +kernel
theorem dX4_order_106 : decode cX4_order 106 = .ok (.ireturn, 1) := by decide +kernel
theorem dX4_goTogether_0 : decode cX4_goTogether 0 = .ok (.aload_n 0, 1) := by decide +kernel
theorem dX4_goTogether_1 : decode cX4_goTogether 1 = .ok (.getfield 70, 3) := by decide +kernel
theorem dX4_goTogether_4 : decode cX4_goTogether 4 = .ok (.iload_n 1, 1) := by decide +kernel
theorem dX4_goTogether_5 : decode cX4_goTogether 5 = .ok (.iaload, 1) := by decide +kernel
theorem dX4_goTogether_6 : decode cX4_goTogether 6 = .ok (.aload_n 0, 1) := by decide +kernel
theorem dX4_goTogether_7 : decode cX4_goTogether 7 = .ok (.getfield 70, 3) := by decide +kernel
theorem dX4_goTogether_10 : decode cX4_goTogether 10 = .ok (.iload_n 2, 1) := by decide +kernel
theorem dX4_goTogether_11 : decode cX4_goTogether 11 = .ok (.iaload, 1) := by decide +kernel
theorem dX4_goTogether_12 : decode cX4_goTogether 12 = .ok (.if_icmp .eq 60, 3) := by decide +kernel
theorem dX4_goTogether_15 : decode cX4_goTogether 15 = .ok (.aload_n 0, 1) := by decide +kernel
theorem dX4_goTogether_16 : decode cX4_goTogether 16 = .ok (.getfield 67, 3) := by decide +kernel
theorem dX4_goTogether_19 : decode cX4_goTogether 19 = .ok (.iload_n 1, 1) := by decide +kernel
theorem dX4_goTogether_20 : decode cX4_goTogether 20 = .ok (.iaload, 1) := by decide +kernel
theorem dX4_goTogether_21 : decode cX4_goTogether 21 = .ok (.aload_n 0, 1) := by decide +kernel
theorem dX4_goTogether_22 : decode cX4_goTogether 22 = .ok (.getfield 67, 3) := by decide +kernel
theorem dX4_goTogether_25 : decode cX4_goTogether 25 = .ok (.iload_n 2, 1) := by decide +kernel
theorem dX4_goTogether_26 : decode cX4_goTogether 26 = .ok (.iaload, 1) := by decide +kernel
theorem dX4_goTogether_27 : decode cX4_goTogether 27 = .ok (.if_icmp .eq 49, 3) := by decide +kernel
theorem dX4_goTogether_30 : decode cX4_goTogether 30 = .ok (.aload_n 0, 1) := by decide +kernel
theorem dX4_goTogether_31 : decode cX4_goTogether 31 = .ok (.aload_n 0, 1) := by decide +kernel
theorem dX4_goTogether_32 : decode cX4_goTogether 32 = .ok (.getfield 67, 3) := by decide +kernel
theorem dX4_goTogether_35 : decode cX4_goTogether 35 = .ok (.iload_n 2, 1) := by decide +kernel
theorem dX4_goTogether_36 : decode cX4_goTogether 36 = .ok (.iaload, 1) := by decide +kernel
theorem dX4_goTogether_37 : decode cX4_goTogether 37 = .ok (.iconst 1, 1) := by decide +kernel
theorem dX4_goTogether_38 : decode cX4_goTogether 38 = .ok (.aload_n 0, 1) := by decide +kernel
theorem dX4_goTogether_39 : decode cX4_goTogether 39 = .ok (.getfield 70, 3) := by decide +kernel
theorem dX4_goTogether_42 : decode cX4_goTogether 42 = .ok (.iload_n 1, 1) := by decide +kernel
theorem dX4_goTogether_43 : decode cX4_goTogether 43 = .ok (.iaload, 1) := by decide +kernel
theorem dX4_goTogether_44 : decode cX4_goTogether 44 = .ok (.ishl, 1) := by decide +kernel
theorem dX4_goTogether_45 : decode cX4_goTogether 45 = .ok (.invokevirtual 124, 3) := by decide +kernel
theorem dX4_goTogether_48 : decode cX4_goTogether 48 = .ok (.ifCond .eq 28, 3) := by decide +kernel
theorem dX4_goTogether_51 : decode cX4_goTogether 51 = .ok (.aload_n 0, 1) := by decide +kernel
theorem dX4_goTogether_52 : decode cX4_goTogether 52 = .ok (.aload_n 0, 1) := by decide +kernel
theorem dX4_goTogether_53 : decode cX4_goTogether 53 = .ok (.getfield 67, 3) := by decide +kernel
theorem dX4_goTogether_56 : decode cX4_goTogether 56 = .ok (.iload_n 1, 1) := by decide +kernel
theorem dX4_goTogether_57 : decode cX4_goTogether 57 = .ok (.iaload, 1) := by decide +kernel
theorem dX4_goTogether_58 : decode cX4_goTogether 58 = .ok (.iconst 1, 1) := by decide +kernel
theorem dX4_goTogether_59 : decode cX4_goTogether 59 = .ok (.aload_n 0, 1) := by decide +kernel
theorem dX4_goTogether_60 : decode cX4_goTogether 60 = .ok (.getfield 70, 3) := by decide +kernel
theorem dX4_goTogether_63 : decode cX4_goTogether 63 = .ok (.iload_n 2, 1) := by decide +kernel
theorem dX4_goTogether_64 : decode cX4_goTogether 64 = .ok (.iaload, 1) := by decide +kernel
theorem dX4_goTogether_65 : decode cX4_goTogether 65 = .ok (.ishl, 1) := by decide +kernel
theorem dX4_goTogether_66 : decode cX4_goTogether 66 = .ok (.invokevirtual 124, 3) := by decide +kernel
theorem dX4_goTogether_69 : decode cX4_goTogether 69 = .ok (.ifCond .eq 7, 3) := by decide +kernel
theorem dX4_goTogether_72 : decode cX4_goTogether 72 = .ok (.iconst 1, 1) := by decide +kernel
theorem dX4_goTogether_73 : decode cX4_goTogether 73 = .ok (.goto 4, 3) := by decide +kernel
theorem dX4_goTogether_76 : decode cX4_goTogether 76 = .ok (.iconst 0, 1) := by decide +kernel
theorem dX4_goTogether_77 : decode cX4_goTogether 77 = .ok (.ireturn, 1) := by decide +kernel
theorem dX4_groups_0 : decode cX4_groups 0 = .ok (.iconst 0, 1) := by decide +kernel
theorem dX4_groups_1 : decode cX4_groups 1 = .ok (.istore_n 1, 1) := by decide +kernel
theorem dX4_groups_2 : decode cX4_groups 2 = .ok (.iload_n 1, 1) := by decide +kernel
theorem dX4_groups_3 : decode cX4_groups 3 = .ok (.iconst 1, 1) := by decide +kernel
theorem dX4_groups_4 : decode cX4_groups 4 = .ok (.aload_n 0, 1) := by decide +kernel
theorem dX4_groups_5 : decode cX4_groups 5 = .ok (.getfield 73, 3) := by decide +kernel
theorem dX4_groups_8 : decode cX4_groups 8 = .ok (.ishl, 1) := by decide +kernel
theorem dX4_groups_9 : decode cX4_groups 9 = .ok (.if_icmp .ge 177, 3) := by decide +kernel
theorem dX4_groups_12 : decode cX4_groups 12 = .ok (.aload_n 0, 1) := by decide +kernel
theorem dX4_groups_13 : decode cX4_groups 13 = .ok (.getfield 79, 3) := by decide +kernel
theorem dX4_groups_16 : decode cX4_groups 16 = .ok (.iload_n 1, 1) := by decide +kernel
theorem dX4_groups_17 : decode cX4_groups 17 = .ok (.iload_n 1, 1) := by decide +kernel
theorem dX4_groups_18 : decode cX4_groups 18 = .ok (.ifCond .le 7, 3) := by decide +kernel
theorem dX4_groups_21 : decode cX4_groups 21 = .ok (.iconst 1, 1) := by decide +kernel
theorem dX4_groups_22 : decode cX4_groups 22 = .ok (.goto 4, 3) := by decide +kernel
theorem dX4_groups_25 : decode cX4_groups 25 = .ok (.iconst 0, 1) := by decide +kernel
theorem dX4_groups_26 : decode cX4_groups 26 = .ok (.bastore, 1) := by decide +kernel
theorem dX4_groups_27 : decode cX4_groups 27 = .ok (.iconst 0, 1) := by decide +kernel
theorem dX4_groups_28 : decode cX4_groups 28 = .ok (.istore_n 2, 1) := by decide +kernel
theorem dX4_groups_29 : decode cX4_groups 29 = .ok (.iload_n 2, 1) := by decide +kernel
theorem dX4_groups_30 : decode cX4_groups 30 = .ok (.aload_n 0, 1) := by decide +kernel
theorem dX4_groups_31 : decode cX4_groups 31 = .ok (.getfield 73, 3) := by decide +kernel
theorem dX4_groups_34 : decode cX4_groups 34 = .ok (.if_icmp .ge 56, 3) := by decide +kernel
theorem dX4_groups_37 : decode cX4_groups 37 = .ok (.iconst 0, 1) := by decide +kernel
theorem dX4_groups_38 : decode cX4_groups 38 = .ok (.istore_n 3, 1) := by decide +kernel
theorem dX4_groups_39 : decode cX4_groups 39 = .ok (.iload_n 3, 1) := by decide +kernel
theorem dX4_groups_40 : decode cX4_groups 40 = .ok (.iload_n 2, 1) := by decide +kernel
theorem dX4_groups_41 : decode cX4_groups 41 = .ok (.if_icmp .ge 43, 3) := by decide +kernel
theorem dX4_groups_44 : decode cX4_groups 44 = .ok (.iload_n 1, 1) := by decide +kernel
theorem dX4_groups_45 : decode cX4_groups 45 = .ok (.iload_n 2, 1) := by decide +kernel
theorem dX4_groups_46 : decode cX4_groups 46 = .ok (.ishr, 1) := by decide +kernel
theorem dX4_groups_47 : decode cX4_groups 47 = .ok (.iconst 1, 1) := by decide +kernel
theorem dX4_groups_48 : decode cX4_groups 48 = .ok (.iand, 1) := by decide +kernel
theorem dX4_groups_49 : decode cX4_groups 49 = .ok (.iconst 1, 1) := by decide +kernel
theorem dX4_groups_50 : decode cX4_groups 50 = .ok (.if_icmp .ne 28, 3) := by decide +kernel
theorem dX4_groups_53 : decode cX4_groups 53 = .ok (.iload_n 1, 1) := by decide +kernel
theorem dX4_groups_54 : decode cX4_groups 54 = .ok (.iload_n 3, 1) := by decide +kernel
theorem dX4_groups_55 : decode cX4_groups 55 = .ok (.ishr, 1) := by decide +kernel
theorem dX4_groups_56 : decode cX4_groups 56 = .ok (.iconst 1, 1) := by decide +kernel
theorem dX4_groups_57 : decode cX4_groups 57 = .ok (.iand, 1) := by decide +kernel
theorem dX4_groups_58 : decode cX4_groups 58 = .ok (.iconst 1, 1) := by decide +kernel
theorem dX4_groups_59 : decode cX4_groups 59 = .ok (.if_icmp .ne 19, 3) := by decide +kernel
theorem dX4_groups_62 : decode cX4_groups 62 = .ok (.aload_n 0, 1) := by decide +kernel
theorem dX4_groups_63 : decode cX4_groups 63 = .ok (.iload_n 2, 1) := by decide +kernel
theorem dX4_groups_64 : decode cX4_groups 64 = .ok (.iload_n 3, 1) := by decide +kernel
theorem dX4_groups_65 : decode cX4_groups 65 = .ok (.invokevirtual 161, 3) := by decide +kernel
theorem dX4_groups_68 : decode cX4_groups 68 = .ok (.ifCond .ne 10, 3) := by decide +kernel
theorem dX4_groups_71 : decode cX4_groups 71 = .ok (.aload_n 0, 1) := by decide +kernel
theorem dX4_groups_72 : decode cX4_groups 72 = .ok (.getfield 79, 3) := by decide +kernel
theorem dX4_groups_75 : decode cX4_groups 75 = .ok (.iload_n 1, 1) := by decide +kernel
theorem dX4_groups_76 : decode cX4_groups 76 = .ok (.iconst 0, 1) := by decide +kernel
theorem dX4_groups_77 : decode cX4_groups 77 = .ok (.bastore, 1) := by decide +kernel
theorem dX4_groups_78 : decode cX4_groups 78 = .ok (.iinc 3 1, 3) := by decide +kernel
theorem dX4_groups_81 : decode cX4_groups 81 = .ok (.goto (-42), 3) := by decide +kernel
theorem dX4_groups_84 : decode cX4_groups 84 = .ok (.iinc 2 1, 3) := by decide +kernel
theorem dX4_groups_87 : decode cX4_groups 87 = .ok (.goto (-58), 3) := by decide +kernel
theorem dX4_groups_90 : decode cX4_groups 90 = .ok (.aload_n 0, 1) := by decide +kernel
theorem dX4_groups_91 : decode cX4_groups 91 = .ok (.getfield 76, 3) := by decide +kernel
theorem dX4_groups_94 : decode cX4_groups 94 = .ok (.iload_n 1, 1) := by decide +kernel
theorem dX4_groups_95 : decode cX4_groups 95 = .ok (.iload_n 1, 1) := by decide +kernel
theorem dX4_groups_96 : decode cX4_groups 96 = .ok (.ifCond .ne 7, 3) := by decide +kernel
theorem dX4_groups_99 : decode cX4_groups 99 = .ok (.iconst 0, 1) := by decide +kernel
theorem dX4_groups_100 : decode cX4_groups 100 = .ok (.goto 5, 3) := by decide +kernel
theorem dX4_groups_103 : decode cX4_groups 103 = .ok (.bipush 100, 2) := by decide +kernel
theorem dX4_groups_105 : decode cX4_groups 105 = .ok (.iastore, 1) := by decide +kernel
theorem dX4_groups_106 : decode cX4_groups 106 = .ok (.iload_n 1, 1) := by decide +kernel
theorem dX4_groups_107 : decode cX4_groups 107 = .ok (.iload_n 1, 1) := by decide +kernel
theorem dX4_groups_108 : decode cX4_groups 108 = .ok (.ineg, 1) := by decide +kernel
theorem dX4_groups_109 : decode cX4_groups 109 = .ok (.iand, 1) := by decide +kernel
theorem dX4_groups_110 : decode cX4_groups 110 = .ok (.istore_n 2, 1) := by decide +kernel
theorem dX4_groups_111 : decode cX4_groups 111 = .ok (.iload_n 1, 1) := by decide +kernel
theorem dX4_groups_112 : decode cX4_groups 112 = .ok (.istore_n 3, 1) := by decide +kernel
theorem dX4_groups_113 : decode cX4_groups 113 = .ok (.iload_n 3, 1) := by decide +kernel
theorem dX4_groups_114 : decode cX4_groups 114 = .ok (.ifCond .le 66, 3) := by decide +kernel
theorem dX4_groups_117 : decode cX4_groups 117 = .ok (.iload_n 3, 1) := by decide +kernel
theorem dX4_groups_118 : decode cX4_groups 118 = .ok (.iload_n 2, 1) := by decide +kernel
theorem dX4_groups_119 : decode cX4_groups 119 = .ok (.iand, 1) := by decide +kernel
theorem dX4_groups_120 : decode cX4_groups 120 = .ok (.ifCond .eq 51, 3) := by decide +kernel
theorem dX4_groups_123 : decode cX4_groups 123 = .ok (.aload_n 0, 1) := by decide +kernel
theorem dX4_groups_124 : decode cX4_groups 124 = .ok (.getfield 79, 3) := by decide +kernel
theorem dX4_groups_127 : decode cX4_groups 127 = .ok (.iload_n 3, 1) := by decide +kernel
theorem dX4_groups_128 : decode cX4_groups 128 = .ok (.baload, 1) := by decide +kernel
theorem dX4_groups_129 : decode cX4_groups 129 = .ok (.ifCond .eq 42, 3) := by decide +kernel
theorem dX4_groups_132 : decode cX4_groups 132 = .ok (.iconst 1, 1) := by decide +kernel
theorem dX4_groups_133 : decode cX4_groups 133 = .ok (.aload_n 0, 1) := by decide +kernel
theorem dX4_groups_134 : decode cX4_groups 134 = .ok (.getfield 76, 3) := by decide +kernel
theorem dX4_groups_137 : decode cX4_groups 137 = .ok (.iload_n 1, 1) := by decide +kernel
theorem dX4_groups_138 : decode cX4_groups 138 = .ok (.iload_n 3, 1) := by decide +kernel
theorem dX4_groups_139 : decode cX4_groups 139 = .ok (.iconst (-1), 1) := by decide +kernel
theorem dX4_groups_140 : decode cX4_groups 140 = .ok (.ixor, 1) := by decide +kernel
theorem dX4_groups_141 : decode cX4_groups 141 = .ok (.iand, 1) := by decide +kernel
theorem dX4_groups_142 : decode cX4_groups 142 = .ok (.iaload, 1) := by decide +kernel
theorem dX4_groups_143 : decode cX4_groups 143 = .ok (.iadd, 1) := by decide +kernel
theorem dX4_groups_144 : decode cX4_groups 144 = .ok (.aload_n 0, 1) := by decide +kernel
theorem dX4_groups_145 : decode cX4_groups 145 = .ok (.getfield 76, 3) := by decide +kernel
theorem dX4_groups_148 : decode cX4_groups 148 = .ok (.iload_n 1, 1) := by decide +kernel
theorem dX4_groups_149 : decode cX4_groups 149 = .ok (.iaload, 1) := by decide +kernel
theorem dX4_groups_150 : decode cX4_groups 150 = .ok (.if_icmp .ge 21, 3) := by decide +kernel
theorem dX4_groups_153 : decode cX4_groups 153 = .ok (.aload_n 0, 1) := by decide +kernel
theorem dX4_groups_154 : decode cX4_groups 154 = .ok (.getfield 76, 3) := by decide +kernel
theorem dX4_groups_157 : decode cX4_groups 157 = .ok (.iload_n 1, 1) := by decide +kernel
theorem dX4_groups_158 : decode cX4_groups 158 = .ok (.iconst 1, 1) := by decide +kernel
theorem dX4_groups_159 : decode cX4_groups 159 = .ok (.aload_n 0, 1) := by decide +kernel
theorem dX4_groups_160 : decode cX4_groups 160 = .ok (.getfield 76, 3) := by decide +kernel
theorem dX4_groups_163 : decode cX4_groups 163 = .ok (.iload_n 1, 1) := by decide +kernel
theorem dX4_groups_164 : decode cX4_groups 164 = .ok (.iload_n 3, 1) := by decide +kernel
theorem dX4_groups_165 : decode cX4_groups 165 = .ok (.iconst (-1), 1) := by decide +kernel
theorem dX4_groups_166 : decode cX4_groups 166 = .ok (.ixor, 1) := by decide +kernel
theorem dX4_groups_167 : decode cX4_groups 167 = .ok (.iand, 1) := by decide +kernel
theorem dX4_groups_168 : decode cX4_groups 168 = .ok (.iaload, 1) := by decide +kernel
theorem dX4_groups_169 : decode cX4_groups 169 = .ok (.iadd, 1) := by decide +kernel
theorem dX4_groups_170 : decode cX4_groups 170 = .ok (.iastore, 1) := by decide +kernel
theorem dX4_groups_171 : decode cX4_groups 171 = .ok (.iload_n 3, 1) := by decide +kernel
theorem dX4_groups_172 : decode cX4_groups 172 = .ok (.iconst 1, 1) := by decide +kernel
theorem dX4_groups_173 : decode cX4_groups 173 = .ok (.isub, 1) := by decide +kernel
theorem dX4_groups_174 : decode cX4_groups 174 = .ok (.iload_n 1, 1) := by decide +kernel
theorem dX4_groups_175 : decode cX4_groups 175 = .ok (.iand, 1) := by decide +kernel
theorem dX4_groups_176 : decode cX4_groups 176 = .ok (.istore_n 3, 1) := by decide +kernel
theorem dX4_groups_177 : decode cX4_groups 177 = .ok (.goto (-64), 3) := by decide +kernel
theorem dX4_groups_180 : decode cX4_groups 180 = .ok (.iinc 1 1, 3) := by decide +kernel
theorem dX4_groups_183 : decode cX4_groups 183 = .ok (.goto (-181), 3) := by decide +kernel
theorem dX4_groups_186 : decode cX4_groups 186 = .ok (.return_, 1) := by decide +kernel
theorem dX4_above_0 : decode cX4_above 0 = .ok (.aload_n 0, 1) := by decide +kernel
theorem dX4_above_1 : decode cX4_above 1 = .ok (.invokevirtual 148, 3) := by decide +kernel
theorem dX4_above_4 : decode cX4_above 4 = .ok (.aload_n 0, 1) := by decide +kernel
theorem dX4_above_5 : decode cX4_above 5 = .ok (.getfield 73, 3) := by decide +kernel
theorem dX4_above_8 : decode cX4_above 8 = .ok (.bipush 10, 2) := by decide +kernel
theorem dX4_above_10 : decode cX4_above 10 = .ok (.if_icmp .le 6, 3) := by decide +kernel
theorem dX4_above_13 : decode cX4_above 13 = .ok (.bipush (-5), 2) := by decide +kernel
theorem dX4_above_15 : decode cX4_above 15 = .ok (.ireturn, 1) := by decide +kernel
theorem dX4_above_16 : decode cX4_above 16 = .ok (.aload_n 0, 1) := by decide +kernel
theorem dX4_above_17 : decode cX4_above 17 = .ok (.invokevirtual 164, 3) := by decide +kernel
theorem dX4_above_20 : decode cX4_above 20 = .ok (.aload_n 0, 1) := by decide +kernel
theorem dX4_above_21 : decode cX4_above 21 = .ok (.getfield 76, 3) := by decide +kernel
theorem dX4_above_24 : decode cX4_above 24 = .ok (.iconst 1, 1) := by decide +kernel
theorem dX4_above_25 : decode cX4_above 25 = .ok (.aload_n 0, 1) := by decide +kernel
theorem dX4_above_26 : decode cX4_above 26 = .ok (.getfield 73, 3) := by decide +kernel
theorem dX4_above_29 : decode cX4_above 29 = .ok (.ishl, 1) := by decide +kernel
theorem dX4_above_30 : decode cX4_above 30 = .ok (.iconst 1, 1) := by decide +kernel
theorem dX4_above_31 : decode cX4_above 31 = .ok (.isub, 1) := by decide +kernel
theorem dX4_above_32 : decode cX4_above 32 = .ok (.iaload, 1) := by decide +kernel
theorem dX4_above_33 : decode cX4_above 33 = .ok (.ireturn, 1) := by decide +kernel
theorem dX4_group_0 : decode cX4_group 0 = .ok (.aload_n 0, 1) := by decide +kernel
theorem dX4_group_1 : decode cX4_group 1 = .ok (.invokevirtual 148, 3) := by decide +kernel
theorem dX4_group_4 : decode cX4_group 4 = .ok (.aload_n 0, 1) := by decide +kernel
theorem dX4_group_5 : decode cX4_group 5 = .ok (.getfield 73, 3) := by decide +kernel
theorem dX4_group_8 : decode cX4_group 8 = .ok (.bipush 10, 2) := by decide +kernel
theorem dX4_group_10 : decode cX4_group 10 = .ok (.if_icmp .gt 7, 3) := by decide +kernel
theorem dX4_group_13 : decode cX4_group 13 = .ok (.iload_n 1, 1) := by decide +kernel
theorem dX4_group_14 : decode cX4_group 14 = .ok (.ifCond .ge 5, 3) := by decide +kernel
theorem dX4_group_17 : decode cX4_group 17 = .ok (.iconst (-1), 1) := by decide +kernel
theorem dX4_group_18 : decode cX4_group 18 = .ok (.ireturn, 1) := by decide +kernel
theorem dX4_group_19 : decode cX4_group 19 = .ok (.aload_n 0, 1) := by decide +kernel
theorem dX4_group_20 : decode cX4_group 20 = .ok (.invokevirtual 164, 3) := by decide +kernel
theorem dX4_group_23 : decode cX4_group 23 = .ok (.iconst 1, 1) := by decide +kernel
theorem dX4_group_24 : decode cX4_group 24 = .ok (.aload_n 0, 1) := by decide +kernel
theorem dX4_group_25 : decode cX4_group 25 = .ok (.getfield 73, 3) := by decide +kernel
theorem dX4_group_28 : decode cX4_group 28 = .ok (.ishl, 1) := by decide +kernel
theorem dX4_group_29 : decode cX4_group 29 = .ok (.iconst 1, 1) := by decide +kernel
theorem dX4_group_30 : decode cX4_group 30 = .ok (.isub, 1) := by decide +kernel
theorem dX4_group_31 : decode cX4_group 31 = .ok (.istore_n 2, 1) := by decide +kernel
theorem dX4_group_32 : decode cX4_group 32 = .ok (.iload_n 1, 1) := by decide +kernel
theorem dX4_group_33 : decode cX4_group 33 = .ok (.istore_n 3, 1) := by decide +kernel
theorem dX4_group_34 : decode cX4_group 34 = .ok (.iload_n 2, 1) := by decide +kernel
theorem dX4_group_35 : decode cX4_group 35 = .ok (.ifCond .le 83, 3) := by decide +kernel
theorem dX4_group_38 : decode cX4_group 38 = .ok (.iconst 1, 1) := by decide +kernel
theorem dX4_group_39 : decode cX4_group 39 = .ok (.istore 4, 2) := by decide +kernel
theorem dX4_group_41 : decode cX4_group 41 = .ok (.iload 4, 2) := by decide +kernel
theorem dX4_group_43 : decode cX4_group 43 = .ok (.iload_n 2, 1) := by decide +kernel
theorem dX4_group_44 : decode cX4_group 44 = .ok (.iconst (-1), 1) := by decide +kernel
theorem dX4_group_45 : decode cX4_group 45 = .ok (.ixor, 1) := by decide +kernel
theorem dX4_group_46 : decode cX4_group 46 = .ok (.iand, 1) := by decide +kernel
theorem dX4_group_47 : decode cX4_group 47 = .ok (.ifCond .ne 45, 3) := by decide +kernel
theorem dX4_group_50 : decode cX4_group 50 = .ok (.iload 4, 2) := by decide +kernel
theorem dX4_group_52 : decode cX4_group 52 = .ok (.iload_n 2, 1) := by decide +kernel
theorem dX4_group_53 : decode cX4_group 53 = .ok (.iand, 1) := by decide +kernel
theorem dX4_group_54 : decode cX4_group 54 = .ok (.iload_n 2, 1) := by decide +kernel
theorem dX4_group_55 : decode cX4_group 55 = .ok (.ineg, 1) := by decide +kernel
theorem dX4_group_56 : decode cX4_group 56 = .ok (.iand, 1) := by decide +kernel
theorem dX4_group_57 : decode cX4_group 57 = .ok (.ifCond .eq 35, 3) := by decide +kernel
theorem dX4_group_60 : decode cX4_group 60 = .ok (.aload_n 0, 1) := by decide +kernel
theorem dX4_group_61 : decode cX4_group 61 = .ok (.getfield 79, 3) := by decide +kernel
theorem dX4_group_64 : decode cX4_group 64 = .ok (.iload 4, 2) := by decide +kernel
theorem dX4_group_66 : decode cX4_group 66 = .ok (.baload, 1) := by decide +kernel
theorem dX4_group_67 : decode cX4_group 67 = .ok (.ifCond .eq 25, 3) := by decide +kernel
theorem dX4_group_70 : decode cX4_group 70 = .ok (.iconst 1, 1) := by decide +kernel
theorem dX4_group_71 : decode cX4_group 71 = .ok (.aload_n 0, 1) := by decide +kernel
theorem dX4_group_72 : decode cX4_group 72 = .ok (.getfield 76, 3) := by decide +kernel
theorem dX4_group_75 : decode cX4_group 75 = .ok (.iload_n 2, 1) := by decide +kernel
theorem dX4_group_76 : decode cX4_group 76 = .ok (.iload 4, 2) := by decide +kernel
theorem dX4_group_78 : decode cX4_group 78 = .ok (.iconst (-1), 1) := by decide +kernel
theorem dX4_group_79 : decode cX4_group 79 = .ok (.ixor, 1) := by decide +kernel
theorem dX4_group_80 : decode cX4_group 80 = .ok (.iand, 1) := by decide +kernel
theorem dX4_group_81 : decode cX4_group 81 = .ok (.iaload, 1) := by decide +kernel
theorem dX4_group_82 : decode cX4_group 82 = .ok (.iadd, 1) := by decide +kernel
theorem dX4_group_83 : decode cX4_group 83 = .ok (.aload_n 0, 1) := by decide +kernel
theorem dX4_group_84 : decode cX4_group 84 = .ok (.getfield 76, 3) := by decide +kernel
theorem dX4_group_87 : decode cX4_group 87 = .ok (.iload_n 2, 1) := by decide +kernel
theorem dX4_group_88 : decode cX4_group 88 = .ok (.iaload, 1) := by decide +kernel
theorem dX4_group_89 : decode cX4_group 89 = .ok (.if_icmp .le 9, 3) := by decide +kernel
theorem dX4_group_92 : decode cX4_group 92 = .ok (.iinc 4 1, 3) := by decide +kernel
theorem dX4_group_95 : decode cX4_group 95 = .ok (.goto (-54), 3) := by decide +kernel
theorem dX4_group_98 : decode cX4_group 98 = .ok (.iload_n 3, 1) := by decide +kernel
theorem dX4_group_99 : decode cX4_group 99 = .ok (.ifCond .ne 6, 3) := by decide +kernel
theorem dX4_group_102 : decode cX4_group 102 = .ok (.iload 4, 2) := by decide +kernel
theorem dX4_group_104 : decode cX4_group 104 = .ok (.ireturn, 1) := by decide +kernel
theorem dX4_group_105 : decode cX4_group 105 = .ok (.iinc 3 (-1), 3) := by decide +kernel
theorem dX4_group_108 : decode cX4_group 108 = .ok (.iload_n 2, 1) := by decide +kernel
theorem dX4_group_109 : decode cX4_group 109 = .ok (.iload 4, 2) := by decide +kernel
theorem dX4_group_111 : decode cX4_group 111 = .ok (.iconst (-1), 1) := by decide +kernel
theorem dX4_group_112 : decode cX4_group 112 = .ok (.ixor, 1) := by decide +kernel
theorem dX4_group_113 : decode cX4_group 113 = .ok (.iand, 1) := by decide +kernel
theorem dX4_group_114 : decode cX4_group 114 = .ok (.istore_n 2, 1) := by decide +kernel
theorem dX4_group_115 : decode cX4_group 115 = .ok (.goto (-81), 3) := by decide +kernel
theorem dX4_group_118 : decode cX4_group 118 = .ok (.iconst (-1), 1) := by decide +kernel
theorem dX4_group_119 : decode cX4_group 119 = .ok (.ireturn, 1) := by decide +kernel
theorem dX4_with_0 : decode cX4_with 0 = .ok (.iload_n 1, 1) := by decide +kernel
theorem dX4_with_1 : decode cX4_with 1 = .ok (.istore_n 3, 1) := by decide +kernel
theorem dX4_with_2 : decode cX4_with 2 = .ok (.iconst 0, 1) := by decide +kernel
theorem dX4_with_3 : decode cX4_with 3 = .ok (.istore 4, 2) := by decide +kernel
theorem dX4_with_5 : decode cX4_with 5 = .ok (.iload 4, 2) := by decide +kernel
theorem dX4_with_7 : decode cX4_with 7 = .ok (.iconst 5, 1) := by decide +kernel
theorem dX4_with_8 : decode cX4_with 8 = .ok (.if_icmp .ge 92, 3) := by decide +kernel
theorem dX4_with_11 : decode cX4_with 11 = .ok (.iload_n 2, 1) := by decide +kernel
theorem dX4_with_12 : decode cX4_with 12 = .ok (.iload 4, 2) := by decide +kernel
theorem dX4_with_14 : decode cX4_with 14 = .ok (.ishr, 1) := by decide +kernel
theorem dX4_with_15 : decode cX4_with 15 = .ok (.iconst 1, 1) := by decide +kernel
theorem dX4_with_16 : decode cX4_with 16 = .ok (.iand, 1) := by decide +kernel
theorem dX4_with_17 : decode cX4_with 17 = .ok (.ifCond .ne 6, 3) := by decide +kernel
theorem dX4_with_20 : decode cX4_with 20 = .ok (.goto 74, 3) := by decide +kernel
theorem dX4_with_23 : decode cX4_with 23 = .ok (.iconst 1, 1) := by decide +kernel
theorem dX4_with_24 : decode cX4_with 24 = .ok (.iload 4, 2) := by decide +kernel
theorem dX4_with_26 : decode cX4_with 26 = .ok (.ishl, 1) := by decide +kernel
theorem dX4_with_27 : decode cX4_with 27 = .ok (.istore 5, 2) := by decide +kernel
theorem dX4_with_29 : decode cX4_with 29 = .ok (.iload 5, 2) := by decide +kernel
theorem dX4_with_31 : decode cX4_with 31 = .ok (.iconst 1, 1) := by decide +kernel
theorem dX4_with_32 : decode cX4_with 32 = .ok (.if_icmp .ne 8, 3) := by decide +kernel
theorem dX4_with_35 : decode cX4_with 35 = .ok (.ldc 167, 2) := by decide +kernel
theorem dX4_with_37 : decode cX4_with 37 = .ok (.goto 39, 3) := by decide +kernel
theorem dX4_with_40 : decode cX4_with 40 = .ok (.iload 5, 2) := by decide +kernel
theorem dX4_with_42 : decode cX4_with 42 = .ok (.iconst 2, 1) := by decide +kernel
theorem dX4_with_43 : decode cX4_with 43 = .ok (.if_icmp .ne 8, 3) := by decide +kernel
theorem dX4_with_46 : decode cX4_with 46 = .ok (.ldc 168, 2) := by decide +kernel
theorem dX4_with_48 : decode cX4_with 48 = .ok (.goto 28, 3) := by decide +kernel
theorem dX4_with_51 : decode cX4_with 51 = .ok (.iload 5, 2) := by decide +kernel
theorem dX4_with_53 : decode cX4_with 53 = .ok (.iconst 4, 1) := by decide +kernel
theorem dX4_with_54 : decode cX4_with 54 = .ok (.if_icmp .ne 8, 3) := by decide +kernel
theorem dX4_with_57 : decode cX4_with 57 = .ok (.ldc 169, 2) := by decide +kernel
theorem dX4_with_59 : decode cX4_with 59 = .ok (.goto 17, 3) := by decide +kernel
theorem dX4_with_62 : decode cX4_with 62 = .ok (.iload 5, 2) := by decide +kernel
theorem dX4_with_64 : decode cX4_with 64 = .ok (.bipush 8, 2) := by decide +kernel
theorem dX4_with_66 : decode cX4_with 66 = .ok (.if_icmp .ne 8, 3) := by decide +kernel
theorem dX4_with_69 : decode cX4_with 69 = .ok (.ldc 170, 2) := by decide +kernel
theorem dX4_with_71 : decode cX4_with 71 = .ok (.goto 5, 3) := by decide +kernel
theorem dX4_with_74 : decode cX4_with 74 = .ok (.ldc 171, 2) := by decide +kernel
theorem dX4_with_76 : decode cX4_with 76 = .ok (.istore 6, 2) := by decide +kernel
theorem dX4_with_78 : decode cX4_with 78 = .ok (.iload_n 3, 1) := by decide +kernel
theorem dX4_with_79 : decode cX4_with 79 = .ok (.iload 5, 2) := by decide +kernel
theorem dX4_with_81 : decode cX4_with 81 = .ok (.iushr, 1) := by decide +kernel
theorem dX4_with_82 : decode cX4_with 82 = .ok (.iload 6, 2) := by decide +kernel
theorem dX4_with_84 : decode cX4_with 84 = .ok (.iand, 1) := by decide +kernel
theorem dX4_with_85 : decode cX4_with 85 = .ok (.iload_n 3, 1) := by decide +kernel
theorem dX4_with_86 : decode cX4_with 86 = .ok (.iload 6, 2) := by decide +kernel
theorem dX4_with_88 : decode cX4_with 88 = .ok (.iand, 1) := by decide +kernel
theorem dX4_with_89 : decode cX4_with 89 = .ok (.iload 5, 2) := by decide +kernel
theorem dX4_with_91 : decode cX4_with 91 = .ok (.ishl, 1) := by decide +kernel
theorem dX4_with_92 : decode cX4_with 92 = .ok (.ior, 1) := by decide +kernel
theorem dX4_with_93 : decode cX4_with 93 = .ok (.istore_n 3, 1) := by decide +kernel
theorem dX4_with_94 : decode cX4_with 94 = .ok (.iinc 4 1, 3) := by decide +kernel
theorem dX4_with_97 : decode cX4_with 97 = .ok (.goto (-92), 3) := by decide +kernel
theorem dX4_with_100 : decode cX4_with 100 = .ok (.iload_n 1, 1) := by decide +kernel
theorem dX4_with_101 : decode cX4_with 101 = .ok (.iload_n 3, 1) := by decide +kernel
theorem dX4_with_102 : decode cX4_with 102 = .ok (.ior, 1) := by decide +kernel
theorem dX4_with_103 : decode cX4_with 103 = .ok (.ireturn, 1) := by decide +kernel
theorem dX4_servedBy_0 : decode cX4_servedBy 0 = .ok (.iconst 0, 1) := by decide +kernel
theorem dX4_servedBy_1 : decode cX4_servedBy 1 = .ok (.istore_n 3, 1) := by decide +kernel
theorem dX4_servedBy_2 : decode cX4_servedBy 2 = .ok (.iconst 0, 1) := by decide +kernel
theorem dX4_servedBy_3 : decode cX4_servedBy 3 = .ok (.istore 4, 2) := by decide +kernel
theorem dX4_servedBy_5 : decode cX4_servedBy 5 = .ok (.iload 4, 2) := by decide +kernel
theorem dX4_servedBy_7 : decode cX4_servedBy 7 = .ok (.aload_n 0, 1) := by decide +kernel
theorem dX4_servedBy_8 : decode cX4_servedBy 8 = .ok (.getfield 30, 3) := by decide +kernel
theorem dX4_servedBy_11 : decode cX4_servedBy 11 = .ok (.iload_n 1, 1) := by decide +kernel
theorem dX4_servedBy_12 : decode cX4_servedBy 12 = .ok (.iaload, 1) := by decide +kernel
theorem dX4_servedBy_13 : decode cX4_servedBy 13 = .ok (.if_icmp .ge 43, 3) := by decide +kernel
theorem dX4_servedBy_16 : decode cX4_servedBy 16 = .ok (.aload_n 0, 1) := by decide +kernel
theorem dX4_servedBy_17 : decode cX4_servedBy 17 = .ok (.aload_n 0, 1) := by decide +kernel
theorem dX4_servedBy_18 : decode cX4_servedBy 18 = .ok (.getfield 33, 3) := by decide +kernel
theorem dX4_servedBy_21 : decode cX4_servedBy 21 = .ok (.bipush 12, 2) := by decide +kernel
theorem dX4_servedBy_23 : decode cX4_servedBy 23 = .ok (.iload_n 1, 1) := by decide +kernel
theorem dX4_servedBy_24 : decode cX4_servedBy 24 = .ok (.imul, 1) := by decide +kernel
theorem dX4_servedBy_25 : decode cX4_servedBy 25 = .ok (.iload 4, 2) := by decide +kernel
theorem dX4_servedBy_27 : decode cX4_servedBy 27 = .ok (.iadd, 1) := by decide +kernel
theorem dX4_servedBy_28 : decode cX4_servedBy 28 = .ok (.iaload, 1) := by decide +kernel
theorem dX4_servedBy_29 : decode cX4_servedBy 29 = .ok (.invokevirtual 98, 3) := by decide +kernel
theorem dX4_servedBy_32 : decode cX4_servedBy 32 = .ok (.ifCond .eq 18, 3) := by decide +kernel
theorem dX4_servedBy_35 : decode cX4_servedBy 35 = .ok (.iload_n 3, 1) := by decide +kernel
theorem dX4_servedBy_36 : decode cX4_servedBy 36 = .ok (.aload_n 0, 1) := by decide +kernel
theorem dX4_servedBy_37 : decode cX4_servedBy 37 = .ok (.getfield 33, 3) := by decide +kernel
theorem dX4_servedBy_40 : decode cX4_servedBy 40 = .ok (.bipush 12, 2) := by decide +kernel
theorem dX4_servedBy_42 : decode cX4_servedBy 42 = .ok (.iload_n 1, 1) := by decide +kernel
theorem dX4_servedBy_43 : decode cX4_servedBy 43 = .ok (.imul, 1) := by decide +kernel
theorem dX4_servedBy_44 : decode cX4_servedBy 44 = .ok (.iload 4, 2) := by decide +kernel
theorem dX4_servedBy_46 : decode cX4_servedBy 46 = .ok (.iadd, 1) := by decide +kernel
theorem dX4_servedBy_47 : decode cX4_servedBy 47 = .ok (.iaload, 1) := by decide +kernel
theorem dX4_servedBy_48 : decode cX4_servedBy 48 = .ok (.ior, 1) := by decide +kernel
theorem dX4_servedBy_49 : decode cX4_servedBy 49 = .ok (.istore_n 3, 1) := by decide +kernel
theorem dX4_servedBy_50 : decode cX4_servedBy 50 = .ok (.iinc 4 1, 3) := by decide +kernel
theorem dX4_servedBy_53 : decode cX4_servedBy 53 = .ok (.goto (-48), 3) := by decide +kernel
theorem dX4_servedBy_56 : decode cX4_servedBy 56 = .ok (.aload_n 0, 1) := by decide +kernel
theorem dX4_servedBy_57 : decode cX4_servedBy 57 = .ok (.getfield 23, 3) := by decide +kernel
theorem dX4_servedBy_60 : decode cX4_servedBy 60 = .ok (.iload_n 1, 1) := by decide +kernel
theorem dX4_servedBy_61 : decode cX4_servedBy 61 = .ok (.iaload, 1) := by decide +kernel
theorem dX4_servedBy_62 : decode cX4_servedBy 62 = .ok (.iconst 2, 1) := by decide +kernel
theorem dX4_servedBy_63 : decode cX4_servedBy 63 = .ok (.if_icmp .ne 17, 3) := by decide +kernel
theorem dX4_servedBy_66 : decode cX4_servedBy 66 = .ok (.iload_n 3, 1) := by decide +kernel
theorem dX4_servedBy_67 : decode cX4_servedBy 67 = .ok (.iconst 1, 1) := by decide +kernel
theorem dX4_servedBy_68 : decode cX4_servedBy 68 = .ok (.aload_n 0, 1) := by decide +kernel
theorem dX4_servedBy_69 : decode cX4_servedBy 69 = .ok (.getfield 7, 3) := by decide +kernel
theorem dX4_servedBy_72 : decode cX4_servedBy 72 = .ok (.ishl, 1) := by decide +kernel
theorem dX4_servedBy_73 : decode cX4_servedBy 73 = .ok (.iconst 1, 1) := by decide +kernel
theorem dX4_servedBy_74 : decode cX4_servedBy 74 = .ok (.isub, 1) := by decide +kernel
theorem dX4_servedBy_75 : decode cX4_servedBy 75 = .ok (.if_icmp .ne 5, 3) := by decide +kernel
theorem dX4_servedBy_78 : decode cX4_servedBy 78 = .ok (.iconst 1, 1) := by decide +kernel
theorem dX4_servedBy_79 : decode cX4_servedBy 79 = .ok (.ireturn, 1) := by decide +kernel
theorem dX4_servedBy_80 : decode cX4_servedBy 80 = .ok (.iconst 1, 1) := by decide +kernel
theorem dX4_servedBy_81 : decode cX4_servedBy 81 = .ok (.istore 4, 2) := by decide +kernel
theorem dX4_servedBy_83 : decode cX4_servedBy 83 = .ok (.iconst 0, 1) := by decide +kernel
theorem dX4_servedBy_84 : decode cX4_servedBy 84 = .ok (.istore 5, 2) := by decide +kernel
theorem dX4_servedBy_86 : decode cX4_servedBy 86 = .ok (.iconst 0, 1) := by decide +kernel
theorem dX4_servedBy_87 : decode cX4_servedBy 87 = .ok (.istore 6, 2) := by decide +kernel
theorem dX4_servedBy_89 : decode cX4_servedBy 89 = .ok (.iload 6, 2) := by decide +kernel
theorem dX4_servedBy_91 : decode cX4_servedBy 91 = .ok (.aload_n 0, 1) := by decide +kernel
theorem dX4_servedBy_92 : decode cX4_servedBy 92 = .ok (.getfield 7, 3) := by decide +kernel
theorem dX4_servedBy_95 : decode cX4_servedBy 95 = .ok (.if_icmp .ge 85, 3) := by decide +kernel
theorem dX4_servedBy_98 : decode cX4_servedBy 98 = .ok (.iload_n 2, 1) := by decide +kernel
theorem dX4_servedBy_99 : decode cX4_servedBy 99 = .ok (.iconst 1, 1) := by decide +kernel
theorem dX4_servedBy_100 : decode cX4_servedBy 100 = .ok (.iload 6, 2) := by decide +kernel
theorem dX4_servedBy_102 : decode cX4_servedBy 102 = .ok (.ishl, 1) := by decide +kernel
theorem dX4_servedBy_103 : decode cX4_servedBy 103 = .ok (.iushr, 1) := by decide +kernel
theorem dX4_servedBy_104 : decode cX4_servedBy 104 = .ok (.iconst 1, 1) := by decide +kernel
theorem dX4_servedBy_105 : decode cX4_servedBy 105 = .ok (.iand, 1) := by decide +kernel
theorem dX4_servedBy_106 : decode cX4_servedBy 106 = .ok (.iconst 1, 1) := by decide +kernel
theorem dX4_servedBy_107 : decode cX4_servedBy 107 = .ok (.if_icmp .ne 7, 3) := by decide +kernel
theorem dX4_servedBy_110 : decode cX4_servedBy 110 = .ok (.iconst 1, 1) := by decide +kernel
theorem dX4_servedBy_111 : decode cX4_servedBy 111 = .ok (.goto 4, 3) := by decide +kernel
theorem dX4_servedBy_114 : decode cX4_servedBy 114 = .ok (.iconst 0, 1) := by decide +kernel
theorem dX4_servedBy_115 : decode cX4_servedBy 115 = .ok (.istore 7, 2) := by decide +kernel
theorem dX4_servedBy_117 : decode cX4_servedBy 117 = .ok (.iload 5, 2) := by decide +kernel
theorem dX4_servedBy_119 : decode cX4_servedBy 119 = .ok (.ifCond .ne 17, 3) := by decide +kernel
theorem dX4_servedBy_122 : decode cX4_servedBy 122 = .ok (.iload 7, 2) := by decide +kernel
theorem dX4_servedBy_124 : decode cX4_servedBy 124 = .ok (.ifCond .eq 16, 3) := by decide +kernel
theorem dX4_servedBy_127 : decode cX4_servedBy 127 = .ok (.iload_n 3, 1) := by decide +kernel
theorem dX4_servedBy_128 : decode cX4_servedBy 128 = .ok (.iload 6, 2) := by decide +kernel
theorem dX4_servedBy_130 : decode cX4_servedBy 130 = .ok (.ishr, 1) := by decide +kernel
theorem dX4_servedBy_131 : decode cX4_servedBy 131 = .ok (.iconst 1, 1) := by decide +kernel
theorem dX4_servedBy_132 : decode cX4_servedBy 132 = .ok (.iand, 1) := by decide +kernel
theorem dX4_servedBy_133 : decode cX4_servedBy 133 = .ok (.ifCond .ne 7, 3) := by decide +kernel
theorem dX4_servedBy_136 : decode cX4_servedBy 136 = .ok (.iconst 1, 1) := by decide +kernel
theorem dX4_servedBy_137 : decode cX4_servedBy 137 = .ok (.goto 4, 3) := by decide +kernel
theorem dX4_servedBy_140 : decode cX4_servedBy 140 = .ok (.iconst 0, 1) := by decide +kernel
theorem dX4_servedBy_141 : decode cX4_servedBy 141 = .ok (.istore 5, 2) := by decide +kernel
theorem dX4_servedBy_143 : decode cX4_servedBy 143 = .ok (.iload 4, 2) := by decide +kernel
theorem dX4_servedBy_145 : decode cX4_servedBy 145 = .ok (.ifCond .eq 26, 3) := by decide +kernel
theorem dX4_servedBy_148 : decode cX4_servedBy 148 = .ok (.iload 7, 2) := by decide +kernel
theorem dX4_servedBy_150 : decode cX4_servedBy 150 = .ok (.ifCond .ne 17, 3) := by decide +kernel
theorem dX4_servedBy_153 : decode cX4_servedBy 153 = .ok (.aload_n 0, 1) := by decide +kernel
theorem dX4_servedBy_154 : decode cX4_servedBy 154 = .ok (.getfield 27, 3) := by decide +kernel
theorem dX4_servedBy_157 : decode cX4_servedBy 157 = .ok (.iload_n 1, 1) := by decide +kernel
theorem dX4_servedBy_158 : decode cX4_servedBy 158 = .ok (.iaload, 1) := by decide +kernel
theorem dX4_servedBy_159 : decode cX4_servedBy 159 = .ok (.iload 6, 2) := by decide +kernel
theorem dX4_servedBy_161 : decode cX4_servedBy 161 = .ok (.ishr, 1) := by decide +kernel
theorem dX4_servedBy_162 : decode cX4_servedBy 162 = .ok (.iconst 1, 1) := by decide +kernel
theorem dX4_servedBy_163 : decode cX4_servedBy 163 = .ok (.iand, 1) := by decide +kernel
theorem dX4_servedBy_164 : decode cX4_servedBy 164 = .ok (.ifCond .ne 7, 3) := by decide +kernel
theorem dX4_servedBy_167 : decode cX4_servedBy 167 = .ok (.iconst 1, 1) := by decide +kernel
theorem dX4_servedBy_168 : decode cX4_servedBy 168 = .ok (.goto 4, 3) := by decide +kernel
theorem dX4_servedBy_171 : decode cX4_servedBy 171 = .ok (.iconst 0, 1) := by decide +kernel
theorem dX4_servedBy_172 : decode cX4_servedBy 172 = .ok (.istore 4, 2) := by decide +kernel
theorem dX4_servedBy_174 : decode cX4_servedBy 174 = .ok (.iinc 6 1, 3) := by decide +kernel
theorem dX4_servedBy_177 : decode cX4_servedBy 177 = .ok (.goto (-88), 3) := by decide +kernel
theorem dX4_servedBy_180 : decode cX4_servedBy 180 = .ok (.aload_n 0, 1) := by decide +kernel
theorem dX4_servedBy_181 : decode cX4_servedBy 181 = .ok (.getfield 23, 3) := by decide +kernel
theorem dX4_servedBy_184 : decode cX4_servedBy 184 = .ok (.iload_n 1, 1) := by decide +kernel
theorem dX4_servedBy_185 : decode cX4_servedBy 185 = .ok (.iaload, 1) := by decide +kernel
theorem dX4_servedBy_186 : decode cX4_servedBy 186 = .ok (.iconst 2, 1) := by decide +kernel
theorem dX4_servedBy_187 : decode cX4_servedBy 187 = .ok (.if_icmp .ne 8, 3) := by decide +kernel
theorem dX4_servedBy_190 : decode cX4_servedBy 190 = .ok (.iload 5, 2) := by decide +kernel
theorem dX4_servedBy_192 : decode cX4_servedBy 192 = .ok (.goto 5, 3) := by decide +kernel
theorem dX4_servedBy_195 : decode cX4_servedBy 195 = .ok (.iload 4, 2) := by decide +kernel
theorem dX4_servedBy_197 : decode cX4_servedBy 197 = .ok (.ireturn, 1) := by decide +kernel
theorem dX4_step_0 : decode cX4_step 0 = .ok (.iconst 1, 1) := by decide +kernel
theorem dX4_step_1 : decode cX4_step 1 = .ok (.istore_n 2, 1) := by decide +kernel
theorem dX4_step_2 : decode cX4_step 2 = .ok (.iconst 0, 1) := by decide +kernel
theorem dX4_step_3 : decode cX4_step 3 = .ok (.istore_n 3, 1) := by decide +kernel
theorem dX4_step_4 : decode cX4_step 4 = .ok (.iload_n 3, 1) := by decide +kernel
theorem dX4_step_5 : decode cX4_step 5 = .ok (.aload_n 0, 1) := by decide +kernel
theorem dX4_step_6 : decode cX4_step 6 = .ok (.getfield 13, 3) := by decide +kernel
theorem dX4_step_9 : decode cX4_step 9 = .ok (.if_icmp .ge 73, 3) := by decide +kernel
theorem dX4_step_12 : decode cX4_step 12 = .ok (.aload_n 0, 1) := by decide +kernel
theorem dX4_step_13 : decode cX4_step 13 = .ok (.getfield 82, 3) := by decide +kernel
theorem dX4_step_16 : decode cX4_step 16 = .ok (.bipush 10, 2) := by decide +kernel
theorem dX4_step_18 : decode cX4_step 18 = .ok (.iload_n 1, 1) := by decide +kernel
theorem dX4_step_19 : decode cX4_step 19 = .ok (.imul, 1) := by decide +kernel
theorem dX4_step_20 : decode cX4_step 20 = .ok (.iload_n 3, 1) := by decide +kernel
theorem dX4_step_21 : decode cX4_step 21 = .ok (.iadd, 1) := by decide +kernel
theorem dX4_step_22 : decode cX4_step 22 = .ok (.aload_n 0, 1) := by decide +kernel
theorem dX4_step_23 : decode cX4_step 23 = .ok (.aload_n 0, 1) := by decide +kernel
theorem dX4_step_24 : decode cX4_step 24 = .ok (.getfield 82, 3) := by decide +kernel
theorem dX4_step_27 : decode cX4_step 27 = .ok (.bipush 10, 2) := by decide +kernel
theorem dX4_step_29 : decode cX4_step 29 = .ok (.iload_n 1, 1) := by decide +kernel
theorem dX4_step_30 : decode cX4_step 30 = .ok (.imul, 1) := by decide +kernel
theorem dX4_step_31 : decode cX4_step 31 = .ok (.bipush 10, 2) := by decide +kernel
theorem dX4_step_33 : decode cX4_step 33 = .ok (.isub, 1) := by decide +kernel
theorem dX4_step_34 : decode cX4_step 34 = .ok (.iload_n 3, 1) := by decide +kernel
theorem dX4_step_35 : decode cX4_step 35 = .ok (.iadd, 1) := by decide +kernel
theorem dX4_step_36 : decode cX4_step 36 = .ok (.iaload, 1) := by decide +kernel
theorem dX4_step_37 : decode cX4_step 37 = .ok (.aload_n 0, 1) := by decide +kernel
theorem dX4_step_38 : decode cX4_step 38 = .ok (.getfield 85, 3) := by decide +kernel
theorem dX4_step_41 : decode cX4_step 41 = .ok (.iload_n 1, 1) := by decide +kernel
theorem dX4_step_42 : decode cX4_step 42 = .ok (.iaload, 1) := by decide +kernel
theorem dX4_step_43 : decode cX4_step 43 = .ok (.invokevirtual 172, 3) := by decide +kernel
theorem dX4_step_46 : decode cX4_step 46 = .ok (.iastore, 1) := by decide +kernel
theorem dX4_step_47 : decode cX4_step 47 = .ok (.iload_n 2, 1) := by decide +kernel
theorem dX4_step_48 : decode cX4_step 48 = .ok (.ifCond .eq 26, 3) := by decide +kernel
theorem dX4_step_51 : decode cX4_step 51 = .ok (.aload_n 0, 1) := by decide +kernel
theorem dX4_step_52 : decode cX4_step 52 = .ok (.iload_n 3, 1) := by decide +kernel
theorem dX4_step_53 : decode cX4_step 53 = .ok (.aload_n 0, 1) := by decide +kernel
theorem dX4_step_54 : decode cX4_step 54 = .ok (.getfield 82, 3) := by decide +kernel
theorem dX4_step_57 : decode cX4_step 57 = .ok (.bipush 10, 2) := by decide +kernel
theorem dX4_step_59 : decode cX4_step 59 = .ok (.iload_n 1, 1) := by decide +kernel
theorem dX4_step_60 : decode cX4_step 60 = .ok (.imul, 1) := by decide +kernel
theorem dX4_step_61 : decode cX4_step 61 = .ok (.iload_n 3, 1) := by decide +kernel
theorem dX4_step_62 : decode cX4_step 62 = .ok (.iadd, 1) := by decide +kernel
theorem dX4_step_63 : decode cX4_step 63 = .ok (.iaload, 1) := by decide +kernel
theorem dX4_step_64 : decode cX4_step 64 = .ok (.invokevirtual 175, 3) := by decide +kernel
theorem dX4_step_67 : decode cX4_step 67 = .ok (.ifCond .eq 7, 3) := by decide +kernel
theorem dX4_step_70 : decode cX4_step 70 = .ok (.iconst 1, 1) := by decide +kernel
theorem dX4_step_71 : decode cX4_step 71 = .ok (.goto 4, 3) := by decide +kernel
theorem dX4_step_74 : decode cX4_step 74 = .ok (.iconst 0, 1) := by decide +kernel
theorem dX4_step_75 : decode cX4_step 75 = .ok (.istore_n 2, 1) := by decide +kernel
theorem dX4_step_76 : decode cX4_step 76 = .ok (.iinc 3 1, 3) := by decide +kernel
theorem dX4_step_79 : decode cX4_step 79 = .ok (.goto (-75), 3) := by decide +kernel
theorem dX4_step_82 : decode cX4_step 82 = .ok (.iload_n 2, 1) := by decide +kernel
theorem dX4_step_83 : decode cX4_step 83 = .ok (.ireturn, 1) := by decide +kernel
theorem dX4_begin_0 : decode cX4_begin 0 = .ok (.aload_n 0, 1) := by decide +kernel
theorem dX4_begin_1 : decode cX4_begin 1 = .ok (.invokevirtual 141, 3) := by decide +kernel
theorem dX4_begin_4 : decode cX4_begin 4 = .ok (.iconst 1, 1) := by decide +kernel
theorem dX4_begin_5 : decode cX4_begin 5 = .ok (.istore_n 1, 1) := by decide +kernel
theorem dX4_begin_6 : decode cX4_begin 6 = .ok (.iconst 0, 1) := by decide +kernel
theorem dX4_begin_7 : decode cX4_begin 7 = .ok (.istore_n 2, 1) := by decide +kernel
theorem dX4_begin_8 : decode cX4_begin 8 = .ok (.iload_n 2, 1) := by decide +kernel
theorem dX4_begin_9 : decode cX4_begin 9 = .ok (.aload_n 0, 1) := by decide +kernel
theorem dX4_begin_10 : decode cX4_begin 10 = .ok (.getfield 13, 3) := by decide +kernel
theorem dX4_begin_13 : decode cX4_begin 13 = .ok (.if_icmp .ge 74, 3) := by decide +kernel
theorem dX4_begin_16 : decode cX4_begin 16 = .ok (.iconst 0, 1) := by decide +kernel
theorem dX4_begin_17 : decode cX4_begin 17 = .ok (.istore_n 3, 1) := by decide +kernel
theorem dX4_begin_18 : decode cX4_begin 18 = .ok (.iconst 0, 1) := by decide +kernel
theorem dX4_begin_19 : decode cX4_begin 19 = .ok (.istore 4, 2) := by decide +kernel
theorem dX4_begin_21 : decode cX4_begin 21 = .ok (.iload 4, 2) := by decide +kernel
theorem dX4_begin_23 : decode cX4_begin 23 = .ok (.iconst 1, 1) := by decide +kernel
theorem dX4_begin_24 : decode cX4_begin 24 = .ok (.aload_n 0, 1) := by decide +kernel
theorem dX4_begin_25 : decode cX4_begin 25 = .ok (.getfield 7, 3) := by decide +kernel
theorem dX4_begin_28 : decode cX4_begin 28 = .ok (.ishl, 1) := by decide +kernel
theorem dX4_begin_29 : decode cX4_begin 29 = .ok (.if_icmp .ge 26, 3) := by decide +kernel
theorem dX4_begin_32 : decode cX4_begin 32 = .ok (.aload_n 0, 1) := by decide +kernel
theorem dX4_begin_33 : decode cX4_begin 33 = .ok (.iload_n 2, 1) := by decide +kernel
theorem dX4_begin_34 : decode cX4_begin 34 = .ok (.iload 4, 2) := by decide +kernel
theorem dX4_begin_36 : decode cX4_begin 36 = .ok (.invokevirtual 124, 3) := by decide +kernel
theorem dX4_begin_39 : decode cX4_begin 39 = .ok (.ifCond .eq 10, 3) := by decide +kernel
theorem dX4_begin_42 : decode cX4_begin 42 = .ok (.iload_n 3, 1) := by decide +kernel
theorem dX4_begin_43 : decode cX4_begin 43 = .ok (.iconst 1, 1) := by decide +kernel
theorem dX4_begin_44 : decode cX4_begin 44 = .ok (.iload 4, 2) := by decide +kernel
theorem dX4_begin_46 : decode cX4_begin 46 = .ok (.ishl, 1) := by decide +kernel
theorem dX4_begin_47 : decode cX4_begin 47 = .ok (.ior, 1) := by decide +kernel
theorem dX4_begin_48 : decode cX4_begin 48 = .ok (.istore_n 3, 1) := by decide +kernel
theorem dX4_begin_49 : decode cX4_begin 49 = .ok (.iinc 4 1, 3) := by decide +kernel
theorem dX4_begin_52 : decode cX4_begin 52 = .ok (.goto (-31), 3) := by decide +kernel
theorem dX4_begin_55 : decode cX4_begin 55 = .ok (.aload_n 0, 1) := by decide +kernel
theorem dX4_begin_56 : decode cX4_begin 56 = .ok (.getfield 82, 3) := by decide +kernel
theorem dX4_begin_59 : decode cX4_begin 59 = .ok (.iload_n 2, 1) := by decide +kernel
theorem dX4_begin_60 : decode cX4_begin 60 = .ok (.iload_n 3, 1) := by decide +kernel
theorem dX4_begin_61 : decode cX4_begin 61 = .ok (.iastore, 1) := by decide +kernel
theorem dX4_begin_62 : decode cX4_begin 62 = .ok (.iload_n 1, 1) := by decide +kernel
theorem dX4_begin_63 : decode cX4_begin 63 = .ok (.ifCond .eq 16, 3) := by decide +kernel
theorem dX4_begin_66 : decode cX4_begin 66 = .ok (.aload_n 0, 1) := by decide +kernel
theorem dX4_begin_67 : decode cX4_begin 67 = .ok (.iload_n 2, 1) := by decide +kernel
theorem dX4_begin_68 : decode cX4_begin 68 = .ok (.iload_n 3, 1) := by decide +kernel
theorem dX4_begin_69 : decode cX4_begin 69 = .ok (.invokevirtual 175, 3) := by decide +kernel
theorem dX4_begin_72 : decode cX4_begin 72 = .ok (.ifCond .eq 7, 3) := by decide +kernel
theorem dX4_begin_75 : decode cX4_begin 75 = .ok (.iconst 1, 1) := by decide +kernel
theorem dX4_begin_76 : decode cX4_begin 76 = .ok (.goto 4, 3) := by decide +kernel
theorem dX4_begin_79 : decode cX4_begin 79 = .ok (.iconst 0, 1) := by decide +kernel
theorem dX4_begin_80 : decode cX4_begin 80 = .ok (.istore_n 1, 1) := by decide +kernel
theorem dX4_begin_81 : decode cX4_begin 81 = .ok (.iinc 2 1, 3) := by decide +kernel
theorem dX4_begin_84 : decode cX4_begin 84 = .ok (.goto (-76), 3) := by decide +kernel
theorem dX4_begin_87 : decode cX4_begin 87 = .ok (.iload_n 1, 1) := by decide +kernel
theorem dX4_begin_88 : decode cX4_begin 88 = .ok (.ireturn, 1) := by decide +kernel
theorem dX4_isPlan_0 : decode cX4_isPlan 0 = .ok (.iconst 1, 1) := by decide +kernel
theorem dX4_isPlan_1 : decode cX4_isPlan 1 = .ok (.aload_n 0, 1) := by decide +kernel
theorem dX4_isPlan_2 : decode cX4_isPlan 2 = .ok (.getfield 7, 3) := by decide +kernel
theorem dX4_isPlan_5 : decode cX4_isPlan 5 = .ok (.ishl, 1) := by decide +kernel
theorem dX4_isPlan_6 : decode cX4_isPlan 6 = .ok (.iconst 1, 1) := by decide +kernel
theorem dX4_isPlan_7 : decode cX4_isPlan 7 = .ok (.isub, 1) := by decide +kernel
theorem dX4_isPlan_8 : decode cX4_isPlan 8 = .ok (.istore_n 2, 1) := by decide +kernel
theorem dX4_isPlan_9 : decode cX4_isPlan 9 = .ok (.iconst 1, 1) := by decide +kernel
theorem dX4_isPlan_10 : decode cX4_isPlan 10 = .ok (.istore_n 3, 1) := by decide +kernel
theorem dX4_isPlan_11 : decode cX4_isPlan 11 = .ok (.aload_n 0, 1) := by decide +kernel
theorem dX4_isPlan_12 : decode cX4_isPlan 12 = .ok (.getfield 85, 3) := by decide +kernel
theorem dX4_isPlan_15 : decode cX4_isPlan 15 = .ok (.iconst 1, 1) := by decide +kernel
theorem dX4_isPlan_16 : decode cX4_isPlan 16 = .ok (.iconst 0, 1) := by decide +kernel
theorem dX4_isPlan_17 : decode cX4_isPlan 17 = .ok (.iastore, 1) := by decide +kernel
theorem dX4_isPlan_18 : decode cX4_isPlan 18 = .ok (.iload_n 3, 1) := by decide +kernel
theorem dX4_isPlan_19 : decode cX4_isPlan 19 = .ok (.ifCond .le 76, 3) := by decide +kernel
theorem dX4_isPlan_22 : decode cX4_isPlan 22 = .ok (.aload_n 0, 1) := by decide +kernel
theorem dX4_isPlan_23 : decode cX4_isPlan 23 = .ok (.getfield 85, 3) := by decide +kernel
theorem dX4_isPlan_26 : decode cX4_isPlan 26 = .ok (.iload_n 3, 1) := by decide +kernel
theorem dX4_isPlan_27 : decode cX4_isPlan 27 = .ok (.dup2, 1) := by decide +kernel
theorem dX4_isPlan_28 : decode cX4_isPlan 28 = .ok (.iaload, 1) := by decide +kernel
theorem dX4_isPlan_29 : decode cX4_isPlan 29 = .ok (.iconst 1, 1) := by decide +kernel
theorem dX4_isPlan_30 : decode cX4_isPlan 30 = .ok (.iadd, 1) := by decide +kernel
theorem dX4_isPlan_31 : decode cX4_isPlan 31 = .ok (.iastore, 1) := by decide +kernel
theorem dX4_isPlan_32 : decode cX4_isPlan 32 = .ok (.aload_n 0, 1) := by decide +kernel
theorem dX4_isPlan_33 : decode cX4_isPlan 33 = .ok (.getfield 85, 3) := by decide +kernel
theorem dX4_isPlan_36 : decode cX4_isPlan 36 = .ok (.iload_n 3, 1) := by decide +kernel
theorem dX4_isPlan_37 : decode cX4_isPlan 37 = .ok (.iaload, 1) := by decide +kernel
theorem dX4_isPlan_38 : decode cX4_isPlan 38 = .ok (.iload_n 2, 1) := by decide +kernel
theorem dX4_isPlan_39 : decode cX4_isPlan 39 = .ok (.if_icmp .le 9, 3) := by decide +kernel
theorem dX4_isPlan_42 : decode cX4_isPlan 42 = .ok (.iinc 3 (-1), 3) := by decide +kernel
theorem dX4_isPlan_45 : decode cX4_isPlan 45 = .ok (.goto (-27), 3) := by decide +kernel
theorem dX4_isPlan_48 : decode cX4_isPlan 48 = .ok (.aload_n 0, 1) := by decide +kernel
theorem dX4_isPlan_49 : decode cX4_isPlan 49 = .ok (.iload_n 3, 1) := by decide +kernel
theorem dX4_isPlan_50 : decode cX4_isPlan 50 = .ok (.invokevirtual 178, 3) := by decide +kernel
theorem dX4_isPlan_53 : decode cX4_isPlan 53 = .ok (.istore 4, 2) := by decide +kernel
theorem dX4_isPlan_55 : decode cX4_isPlan 55 = .ok (.iload_n 3, 1) := by decide +kernel
theorem dX4_isPlan_56 : decode cX4_isPlan 56 = .ok (.iload_n 1, 1) := by decide +kernel
theorem dX4_isPlan_57 : decode cX4_isPlan 57 = .ok (.if_icmp .ne 10, 3) := by decide +kernel
theorem dX4_isPlan_60 : decode cX4_isPlan 60 = .ok (.iload 4, 2) := by decide +kernel
theorem dX4_isPlan_62 : decode cX4_isPlan 62 = .ok (.ifCond .eq 5, 3) := by decide +kernel
theorem dX4_isPlan_65 : decode cX4_isPlan 65 = .ok (.iconst 1, 1) := by decide +kernel
theorem dX4_isPlan_66 : decode cX4_isPlan 66 = .ok (.ireturn, 1) := by decide +kernel
theorem dX4_isPlan_67 : decode cX4_isPlan 67 = .ok (.iload_n 3, 1) := by decide +kernel
theorem dX4_isPlan_68 : decode cX4_isPlan 68 = .ok (.iload_n 1, 1) := by decide +kernel
theorem dX4_isPlan_69 : decode cX4_isPlan 69 = .ok (.if_icmp .ne 6, 3) := by decide +kernel
theorem dX4_isPlan_72 : decode cX4_isPlan 72 = .ok (.goto (-54), 3) := by decide +kernel
theorem dX4_isPlan_75 : decode cX4_isPlan 75 = .ok (.aload_n 0, 1) := by decide +kernel
theorem dX4_isPlan_76 : decode cX4_isPlan 76 = .ok (.getfield 85, 3) := by decide +kernel
theorem dX4_isPlan_79 : decode cX4_isPlan 79 = .ok (.iload_n 3, 1) := by decide +kernel
theorem dX4_isPlan_80 : decode cX4_isPlan 80 = .ok (.iconst 1, 1) := by decide +kernel
theorem dX4_isPlan_81 : decode cX4_isPlan 81 = .ok (.iadd, 1) := by decide +kernel
theorem dX4_isPlan_82 : decode cX4_isPlan 82 = .ok (.aload_n 0, 1) := by decide +kernel
theorem dX4_isPlan_83 : decode cX4_isPlan 83 = .ok (.getfield 85, 3) := by decide +kernel
theorem dX4_isPlan_86 : decode cX4_isPlan 86 = .ok (.iload_n 3, 1) := by decide +kernel
theorem dX4_isPlan_87 : decode cX4_isPlan 87 = .ok (.iaload, 1) := by decide +kernel
theorem dX4_isPlan_88 : decode cX4_isPlan 88 = .ok (.iastore, 1) := by decide +kernel
theorem dX4_isPlan_89 : decode cX4_isPlan 89 = .ok (.iinc 3 1, 3) := by decide +kernel
theorem dX4_isPlan_92 : decode cX4_isPlan 92 = .ok (.goto (-74), 3) := by decide +kernel
theorem dX4_isPlan_95 : decode cX4_isPlan 95 = .ok (.iconst 0, 1) := by decide +kernel
theorem dX4_isPlan_96 : decode cX4_isPlan 96 = .ok (.ireturn, 1) := by decide +kernel
theorem dX4_planSize_0 : decode cX4_planSize 0 = .ok (.aload_n 0, 1) := by decide +kernel
theorem dX4_planSize_1 : decode cX4_planSize 1 = .ok (.invokevirtual 181, 3) := by decide +kernel
theorem dX4_planSize_4 : decode cX4_planSize 4 = .ok (.ifCond .eq 5, 3) := by decide +kernel
theorem dX4_planSize_7 : decode cX4_planSize 7 = .ok (.iconst 0, 1) := by decide +kernel
theorem dX4_planSize_8 : decode cX4_planSize 8 = .ok (.ireturn, 1) := by decide +kernel
theorem dX4_planSize_9 : decode cX4_planSize 9 = .ok (.iconst 1, 1) := by decide +kernel
theorem dX4_planSize_10 : decode cX4_planSize 10 = .ok (.istore_n 1, 1) := by decide +kernel
theorem dX4_planSize_11 : decode cX4_planSize 11 = .ok (.iload_n 1, 1) := by decide +kernel
theorem dX4_planSize_12 : decode cX4_planSize 12 = .ok (.bipush 6, 2) := by decide +kernel
theorem dX4_planSize_14 : decode cX4_planSize 14 = .ok (.if_icmp .ge 17, 3) := by decide +kernel
theorem dX4_planSize_17 : decode cX4_planSize 17 = .ok (.aload_n 0, 1) := by decide +kernel
theorem dX4_planSize_18 : decode cX4_planSize 18 = .ok (.iload_n 1, 1) := by decide +kernel
theorem dX4_planSize_19 : decode cX4_planSize 19 = .ok (.invokevirtual 185, 3) := by decide +kernel
theorem dX4_planSize_22 : decode cX4_planSize 22 = .ok (.ifCond .ne 9, 3) := by decide +kernel
theorem dX4_planSize_25 : decode cX4_planSize 25 = .ok (.iinc 1 1, 3) := by decide +kernel
theorem dX4_planSize_28 : decode cX4_planSize 28 = .ok (.goto (-17), 3) := by decide +kernel
theorem dX4_planSize_31 : decode cX4_planSize 31 = .ok (.iload_n 1, 1) := by decide +kernel
theorem dX4_planSize_32 : decode cX4_planSize 32 = .ok (.ireturn, 1) := by decide +kernel
theorem dX4_least_0 : decode cX4_least 0 = .ok (.aload_n 0, 1) := by decide +kernel
theorem dX4_least_1 : decode cX4_least 1 = .ok (.getfield 7, 3) := by decide +kernel
theorem dX4_least_4 : decode cX4_least 4 = .ok (.iconst 5, 1) := by decide +kernel
theorem dX4_least_5 : decode cX4_least 5 = .ok (.if_icmp .le 8, 3) := by decide +kernel
theorem dX4_least_8 : decode cX4_least 8 = .ok (.bipush (-5), 2) := by decide +kernel
theorem dX4_least_10 : decode cX4_least 10 = .ok (.goto 7, 3) := by decide +kernel
theorem dX4_least_13 : decode cX4_least 13 = .ok (.aload_n 0, 1) := by decide +kernel
theorem dX4_least_14 : decode cX4_least 14 = .ok (.invokevirtual 188, 3) := by decide +kernel
theorem dX4_least_17 : decode cX4_least 17 = .ok (.ireturn, 1) := by decide +kernel
theorem dX4_planned_0 : decode cX4_planned 0 = .ok (.aload_n 0, 1) := by decide +kernel
theorem dX4_planned_1 : decode cX4_planned 1 = .ok (.getfield 7, 3) := by decide +kernel
theorem dX4_planned_4 : decode cX4_planned 4 = .ok (.iconst 5, 1) := by decide +kernel
theorem dX4_planned_5 : decode cX4_planned 5 = .ok (.if_icmp .gt 7, 3) := by decide +kernel
theorem dX4_planned_8 : decode cX4_planned 8 = .ok (.iload_n 1, 1) := by decide +kernel
theorem dX4_planned_9 : decode cX4_planned 9 = .ok (.ifCond .ge 5, 3) := by decide +kernel
theorem dX4_planned_12 : decode cX4_planned 12 = .ok (.iconst (-1), 1) := by decide +kernel
theorem dX4_planned_13 : decode cX4_planned 13 = .ok (.ireturn, 1) := by decide +kernel
theorem dX4_planned_14 : decode cX4_planned 14 = .ok (.aload_n 0, 1) := by decide +kernel
theorem dX4_planned_15 : decode cX4_planned 15 = .ok (.invokevirtual 188, 3) := by decide +kernel
theorem dX4_planned_18 : decode cX4_planned 18 = .ok (.istore_n 2, 1) := by decide +kernel
theorem dX4_planned_19 : decode cX4_planned 19 = .ok (.iload_n 1, 1) := by decide +kernel
theorem dX4_planned_20 : decode cX4_planned 20 = .ok (.iload_n 2, 1) := by decide +kernel
theorem dX4_planned_21 : decode cX4_planned 21 = .ok (.if_icmp .ge 14, 3) := by decide +kernel
theorem dX4_planned_24 : decode cX4_planned 24 = .ok (.aload_n 0, 1) := by decide +kernel
theorem dX4_planned_25 : decode cX4_planned 25 = .ok (.getfield 85, 3) := by decide +kernel
theorem dX4_planned_28 : decode cX4_planned 28 = .ok (.iload_n 1, 1) := by decide +kernel
theorem dX4_planned_29 : decode cX4_planned 29 = .ok (.iconst 1, 1) := by decide +kernel
theorem dX4_planned_30 : decode cX4_planned 30 = .ok (.iadd, 1) := by decide +kernel
theorem dX4_planned_31 : decode cX4_planned 31 = .ok (.iaload, 1) := by decide +kernel
theorem dX4_planned_32 : decode cX4_planned 32 = .ok (.goto 4, 3) := by decide +kernel
theorem dX4_planned_35 : decode cX4_planned 35 = .ok (.iconst (-1), 1) := by decide +kernel
theorem dX4_planned_36 : decode cX4_planned 36 = .ok (.ireturn, 1) := by decide +kernel
theorem dX4_plan_0 : decode cX4_plan 0 = .ok (.iload_n 1, 1) := by decide +kernel
theorem dX4_plan_1 : decode cX4_plan 1 = .ok (.ifCond .ne 7, 3) := by decide +kernel
theorem dX4_plan_4 : decode cX4_plan 4 = .ok (.iconst 0, 1) := by decide +kernel
theorem dX4_plan_5 : decode cX4_plan 5 = .ok (.goto 29, 3) := by decide +kernel
theorem dX4_plan_8 : decode cX4_plan 8 = .ok (.iload_n 2, 1) := by decide +kernel
theorem dX4_plan_9 : decode cX4_plan 9 = .ok (.ifCond .ne 7, 3) := by decide +kernel
theorem dX4_plan_12 : decode cX4_plan 12 = .ok (.iconst 1, 1) := by decide +kernel
theorem dX4_plan_13 : decode cX4_plan 13 = .ok (.goto 21, 3) := by decide +kernel
theorem dX4_plan_16 : decode cX4_plan 16 = .ok (.iload_n 3, 1) := by decide +kernel
theorem dX4_plan_17 : decode cX4_plan 17 = .ok (.ifCond .ne 7, 3) := by decide +kernel
theorem dX4_plan_20 : decode cX4_plan 20 = .ok (.iconst 2, 1) := by decide +kernel
theorem dX4_plan_21 : decode cX4_plan 21 = .ok (.goto 13, 3) := by decide +kernel
theorem dX4_plan_24 : decode cX4_plan 24 = .ok (.iload 4, 2) := by decide +kernel
theorem dX4_plan_26 : decode cX4_plan 26 = .ok (.ifCond .ne 7, 3) := by decide +kernel
theorem dX4_plan_29 : decode cX4_plan 29 = .ok (.iconst 3, 1) := by decide +kernel
theorem dX4_plan_30 : decode cX4_plan 30 = .ok (.goto 4, 3) := by decide +kernel
theorem dX4_plan_33 : decode cX4_plan 33 = .ok (.iconst 4, 1) := by decide +kernel
theorem dX4_plan_34 : decode cX4_plan 34 = .ok (.istore 5, 2) := by decide +kernel
theorem dX4_plan_36 : decode cX4_plan 36 = .ok (.iload 5, 2) := by decide +kernel
theorem dX4_plan_38 : decode cX4_plan 38 = .ok (.ifCond .gt 7, 3) := by decide +kernel
theorem dX4_plan_41 : decode cX4_plan 41 = .ok (.iload_n 2, 1) := by decide +kernel
theorem dX4_plan_42 : decode cX4_plan 42 = .ok (.ifCond .ne 28, 3) := by decide +kernel
theorem dX4_plan_45 : decode cX4_plan 45 = .ok (.iload 5, 2) := by decide +kernel
theorem dX4_plan_47 : decode cX4_plan 47 = .ok (.iconst 1, 1) := by decide +kernel
theorem dX4_plan_48 : decode cX4_plan 48 = .ok (.if_icmp .gt 7, 3) := by decide +kernel
theorem dX4_plan_51 : decode cX4_plan 51 = .ok (.iload_n 3, 1) := by decide +kernel
theorem dX4_plan_52 : decode cX4_plan 52 = .ok (.ifCond .ne 18, 3) := by decide +kernel
theorem dX4_plan_55 : decode cX4_plan 55 = .ok (.iload 5, 2) := by decide +kernel
theorem dX4_plan_57 : decode cX4_plan 57 = .ok (.iconst 2, 1) := by decide +kernel
theorem dX4_plan_58 : decode cX4_plan 58 = .ok (.if_icmp .gt 8, 3) := by decide +kernel
theorem dX4_plan_61 : decode cX4_plan 61 = .ok (.iload 4, 2) := by decide +kernel
theorem dX4_plan_63 : decode cX4_plan 63 = .ok (.ifCond .ne 7, 3) := by decide +kernel
theorem dX4_plan_66 : decode cX4_plan 66 = .ok (.iconst 1, 1) := by decide +kernel
theorem dX4_plan_67 : decode cX4_plan 67 = .ok (.goto 4, 3) := by decide +kernel
theorem dX4_plan_70 : decode cX4_plan 70 = .ok (.iconst 0, 1) := by decide +kernel
theorem dX4_plan_71 : decode cX4_plan 71 = .ok (.istore 6, 2) := by decide +kernel
theorem dX4_plan_73 : decode cX4_plan 73 = .ok (.iload 6, 2) := by decide +kernel
theorem dX4_plan_75 : decode cX4_plan 75 = .ok (.ifCond .eq 64, 3) := by decide +kernel
theorem dX4_plan_78 : decode cX4_plan 78 = .ok (.iload 5, 2) := by decide +kernel
theorem dX4_plan_80 : decode cX4_plan 80 = .ok (.iconst 1, 1) := by decide +kernel
theorem dX4_plan_81 : decode cX4_plan 81 = .ok (.if_icmp .lt 11, 3) := by decide +kernel
theorem dX4_plan_84 : decode cX4_plan 84 = .ok (.aload_n 0, 1) := by decide +kernel
theorem dX4_plan_85 : decode cX4_plan 85 = .ok (.iload_n 1, 1) := by decide +kernel
theorem dX4_plan_86 : decode cX4_plan 86 = .ok (.invokevirtual 95, 3) := by decide +kernel
theorem dX4_plan_89 : decode cX4_plan 89 = .ok (.ifCond .eq 50, 3) := by decide +kernel
theorem dX4_plan_92 : decode cX4_plan 92 = .ok (.iload 5, 2) := by decide +kernel
theorem dX4_plan_94 : decode cX4_plan 94 = .ok (.iconst 2, 1) := by decide +kernel
theorem dX4_plan_95 : decode cX4_plan 95 = .ok (.if_icmp .lt 11, 3) := by decide +kernel
theorem dX4_plan_98 : decode cX4_plan 98 = .ok (.aload_n 0, 1) := by decide +kernel
theorem dX4_plan_99 : decode cX4_plan 99 = .ok (.iload_n 2, 1) := by decide +kernel
theorem dX4_plan_100 : decode cX4_plan 100 = .ok (.invokevirtual 95, 3) := by decide +kernel
theorem dX4_plan_103 : decode cX4_plan 103 = .ok (.ifCond .eq 36, 3) := by decide +kernel
theorem dX4_plan_106 : decode cX4_plan 106 = .ok (.iload 5, 2) := by decide +kernel
theorem dX4_plan_108 : decode cX4_plan 108 = .ok (.iconst 3, 1) := by decide +kernel
theorem dX4_plan_109 : decode cX4_plan 109 = .ok (.if_icmp .lt 11, 3) := by decide +kernel
theorem dX4_plan_112 : decode cX4_plan 112 = .ok (.aload_n 0, 1) := by decide +kernel
theorem dX4_plan_113 : decode cX4_plan 113 = .ok (.iload_n 3, 1) := by decide +kernel
theorem dX4_plan_114 : decode cX4_plan 114 = .ok (.invokevirtual 95, 3) := by decide +kernel
theorem dX4_plan_117 : decode cX4_plan 117 = .ok (.ifCond .eq 22, 3) := by decide +kernel
theorem dX4_plan_120 : decode cX4_plan 120 = .ok (.iload 5, 2) := by decide +kernel
theorem dX4_plan_122 : decode cX4_plan 122 = .ok (.iconst 4, 1) := by decide +kernel
theorem dX4_plan_123 : decode cX4_plan 123 = .ok (.if_icmp .lt 12, 3) := by decide +kernel
theorem dX4_plan_126 : decode cX4_plan 126 = .ok (.aload_n 0, 1) := by decide +kernel
theorem dX4_plan_127 : decode cX4_plan 127 = .ok (.iload 4, 2) := by decide +kernel
theorem dX4_plan_129 : decode cX4_plan 129 = .ok (.invokevirtual 95, 3) := by decide +kernel
theorem dX4_plan_132 : decode cX4_plan 132 = .ok (.ifCond .eq 7, 3) := by decide +kernel
theorem dX4_plan_135 : decode cX4_plan 135 = .ok (.iconst 1, 1) := by decide +kernel
theorem dX4_plan_136 : decode cX4_plan 136 = .ok (.goto 4, 3) := by decide +kernel
theorem dX4_plan_139 : decode cX4_plan 139 = .ok (.iconst 0, 1) := by decide +kernel
theorem dX4_plan_140 : decode cX4_plan 140 = .ok (.istore 6, 2) := by decide +kernel
theorem dX4_plan_142 : decode cX4_plan 142 = .ok (.iload 6, 2) := by decide +kernel
theorem dX4_plan_144 : decode cX4_plan 144 = .ok (.ifCond .ne 6, 3) := by decide +kernel
theorem dX4_plan_147 : decode cX4_plan 147 = .ok (.bipush (-2), 2) := by decide +kernel
theorem dX4_plan_149 : decode cX4_plan 149 = .ok (.ireturn, 1) := by decide +kernel
theorem dX4_plan_150 : decode cX4_plan 150 = .ok (.iconst 1, 1) := by decide +kernel
theorem dX4_plan_151 : decode cX4_plan 151 = .ok (.istore 7, 2) := by decide +kernel
theorem dX4_plan_153 : decode cX4_plan 153 = .ok (.iconst 0, 1) := by decide +kernel
theorem dX4_plan_154 : decode cX4_plan 154 = .ok (.istore 8, 2) := by decide +kernel
theorem dX4_plan_156 : decode cX4_plan 156 = .ok (.iload 8, 2) := by decide +kernel
theorem dX4_plan_158 : decode cX4_plan 158 = .ok (.aload_n 0, 1) := by decide +kernel
theorem dX4_plan_159 : decode cX4_plan 159 = .ok (.getfield 13, 3) := by decide +kernel
theorem dX4_plan_162 : decode cX4_plan 162 = .ok (.if_icmp .ge 89, 3) := by decide +kernel
theorem dX4_plan_165 : decode cX4_plan 165 = .ok (.aload_n 0, 1) := by decide +kernel
theorem dX4_plan_166 : decode cX4_plan 166 = .ok (.iload 8, 2) := by decide +kernel
theorem dX4_plan_168 : decode cX4_plan 168 = .ok (.invokevirtual 120, 3) := by decide +kernel
theorem dX4_plan_171 : decode cX4_plan 171 = .ok (.iload 5, 2) := by decide +kernel
theorem dX4_plan_173 : decode cX4_plan 173 = .ok (.ifCond .le 10, 3) := by decide +kernel
theorem dX4_plan_176 : decode cX4_plan 176 = .ok (.aload_n 0, 1) := by decide +kernel
theorem dX4_plan_177 : decode cX4_plan 177 = .ok (.iload 8, 2) := by decide +kernel
theorem dX4_plan_179 : decode cX4_plan 179 = .ok (.iload_n 1, 1) := by decide +kernel
theorem dX4_plan_180 : decode cX4_plan 180 = .ok (.invokevirtual 116, 3) := by decide +kernel
theorem dX4_plan_183 : decode cX4_plan 183 = .ok (.iload 5, 2) := by decide +kernel
theorem dX4_plan_185 : decode cX4_plan 185 = .ok (.iconst 1, 1) := by decide +kernel
theorem dX4_plan_186 : decode cX4_plan 186 = .ok (.if_icmp .le 10, 3) := by decide +kernel
theorem dX4_plan_189 : decode cX4_plan 189 = .ok (.aload_n 0, 1) := by decide +kernel
theorem dX4_plan_190 : decode cX4_plan 190 = .ok (.iload 8, 2) := by decide +kernel
theorem dX4_plan_192 : decode cX4_plan 192 = .ok (.iload_n 2, 1) := by decide +kernel
theorem dX4_plan_193 : decode cX4_plan 193 = .ok (.invokevirtual 116, 3) := by decide +kernel
theorem dX4_plan_196 : decode cX4_plan 196 = .ok (.iload 5, 2) := by decide +kernel
theorem dX4_plan_198 : decode cX4_plan 198 = .ok (.iconst 2, 1) := by decide +kernel
theorem dX4_plan_199 : decode cX4_plan 199 = .ok (.if_icmp .le 10, 3) := by decide +kernel
theorem dX4_plan_202 : decode cX4_plan 202 = .ok (.aload_n 0, 1) := by decide +kernel
theorem dX4_plan_203 : decode cX4_plan 203 = .ok (.iload 8, 2) := by decide +kernel
theorem dX4_plan_205 : decode cX4_plan 205 = .ok (.iload_n 3, 1) := by decide +kernel
theorem dX4_plan_206 : decode cX4_plan 206 = .ok (.invokevirtual 116, 3) := by decide +kernel
theorem dX4_plan_209 : decode cX4_plan 209 = .ok (.iload 5, 2) := by decide +kernel
theorem dX4_plan_211 : decode cX4_plan 211 = .ok (.iconst 3, 1) := by decide +kernel
theorem dX4_plan_212 : decode cX4_plan 212 = .ok (.if_icmp .le 11, 3) := by decide +kernel
theorem dX4_plan_215 : decode cX4_plan 215 = .ok (.aload_n 0, 1) := by decide +kernel
theorem dX4_plan_216 : decode cX4_plan 216 = .ok (.iload 8, 2) := by decide +kernel
theorem dX4_plan_218 : decode cX4_plan 218 = .ok (.iload 4, 2) := by decide +kernel
theorem dX4_plan_220 : decode cX4_plan 220 = .ok (.invokevirtual 116, 3) := by decide +kernel
theorem dX4_plan_223 : decode cX4_plan 223 = .ok (.iload 7, 2) := by decide +kernel
theorem dX4_plan_225 : decode cX4_plan 225 = .ok (.ifCond .eq 17, 3) := by decide +kernel
theorem dX4_plan_228 : decode cX4_plan 228 = .ok (.aload_n 0, 1) := by decide +kernel
theorem dX4_plan_229 : decode cX4_plan 229 = .ok (.iload 8, 2) := by decide +kernel
theorem dX4_plan_231 : decode cX4_plan 231 = .ok (.iconst 0, 1) := by decide +kernel
theorem dX4_plan_232 : decode cX4_plan 232 = .ok (.invokevirtual 130, 3) := by decide +kernel
theorem dX4_plan_235 : decode cX4_plan 235 = .ok (.ifCond .eq 7, 3) := by decide +kernel
theorem dX4_plan_238 : decode cX4_plan 238 = .ok (.iconst 1, 1) := by decide +kernel
theorem dX4_plan_239 : decode cX4_plan 239 = .ok (.goto 4, 3) := by decide +kernel
theorem dX4_plan_242 : decode cX4_plan 242 = .ok (.iconst 0, 1) := by decide +kernel
theorem dX4_plan_243 : decode cX4_plan 243 = .ok (.istore 7, 2) := by decide +kernel
theorem dX4_plan_245 : decode cX4_plan 245 = .ok (.iinc 8 1, 3) := by decide +kernel
theorem dX4_plan_248 : decode cX4_plan 248 = .ok (.goto (-92), 3) := by decide +kernel
theorem dX4_plan_251 : decode cX4_plan 251 = .ok (.iload 7, 2) := by decide +kernel
theorem dX4_plan_253 : decode cX4_plan 253 = .ok (.ifCond .eq 7, 3) := by decide +kernel
theorem dX4_plan_256 : decode cX4_plan 256 = .ok (.iconst 1, 1) := by decide +kernel
theorem dX4_plan_257 : decode cX4_plan 257 = .ok (.goto 4, 3) := by decide +kernel
theorem dX4_plan_260 : decode cX4_plan 260 = .ok (.iconst 0, 1) := by decide +kernel
theorem dX4_plan_261 : decode cX4_plan 261 = .ok (.ireturn, 1) := by decide +kernel
theorem dX4_next_0 : decode cX4_next 0 = .ok (.aload_n 0, 1) := by decide +kernel
theorem dX4_next_1 : decode cX4_next 1 = .ok (.invokevirtual 141, 3) := by decide +kernel
theorem dX4_next_4 : decode cX4_next 4 = .ok (.iconst 0, 1) := by decide +kernel
theorem dX4_next_5 : decode cX4_next 5 = .ok (.istore_n 1, 1) := by decide +kernel
theorem dX4_next_6 : decode cX4_next 6 = .ok (.iconst (-1), 1) := by decide +kernel
theorem dX4_next_7 : decode cX4_next 7 = .ok (.istore_n 2, 1) := by decide +kernel
theorem dX4_next_8 : decode cX4_next 8 = .ok (.iconst (-1), 1) := by decide +kernel
theorem dX4_next_9 : decode cX4_next 9 = .ok (.istore_n 3, 1) := by decide +kernel
theorem dX4_next_10 : decode cX4_next 10 = .ok (.iconst 0, 1) := by decide +kernel
theorem dX4_next_11 : decode cX4_next 11 = .ok (.istore 4, 2) := by decide +kernel
theorem dX4_next_13 : decode cX4_next 13 = .ok (.iconst 1, 1) := by decide +kernel
theorem dX4_next_14 : decode cX4_next 14 = .ok (.istore 5, 2) := by decide +kernel
theorem dX4_next_16 : decode cX4_next 16 = .ok (.iload 5, 2) := by decide +kernel
theorem dX4_next_18 : decode cX4_next 18 = .ok (.iconst 1, 1) := by decide +kernel
theorem dX4_next_19 : decode cX4_next 19 = .ok (.aload_n 0, 1) := by decide +kernel
theorem dX4_next_20 : decode cX4_next 20 = .ok (.getfield 7, 3) := by decide +kernel
theorem dX4_next_23 : decode cX4_next 23 = .ok (.ishl, 1) := by decide +kernel
theorem dX4_next_24 : decode cX4_next 24 = .ok (.if_icmp .ge 145, 3) := by decide +kernel
theorem dX4_next_27 : decode cX4_next 27 = .ok (.iconst 0, 1) := by decide +kernel
theorem dX4_next_28 : decode cX4_next 28 = .ok (.istore 6, 2) := by decide +kernel
theorem dX4_next_30 : decode cX4_next 30 = .ok (.iconst 0, 1) := by decide +kernel
theorem dX4_next_31 : decode cX4_next 31 = .ok (.istore 7, 2) := by decide +kernel
theorem dX4_next_33 : decode cX4_next 33 = .ok (.iconst 0, 1) := by decide +kernel
theorem dX4_next_34 : decode cX4_next 34 = .ok (.istore 8, 2) := by decide +kernel
theorem dX4_next_36 : decode cX4_next 36 = .ok (.iload 8, 2) := by decide +kernel
theorem dX4_next_38 : decode cX4_next 38 = .ok (.aload_n 0, 1) := by decide +kernel
theorem dX4_next_39 : decode cX4_next 39 = .ok (.getfield 13, 3) := by decide +kernel
theorem dX4_next_42 : decode cX4_next 42 = .ok (.if_icmp .ge 74, 3) := by decide +kernel
theorem dX4_next_45 : decode cX4_next 45 = .ok (.aload_n 0, 1) := by decide +kernel
theorem dX4_next_46 : decode cX4_next 46 = .ok (.getfield 36, 3) := by decide +kernel
theorem dX4_next_49 : decode cX4_next 49 = .ok (.iload 8, 2) := by decide +kernel
theorem dX4_next_51 : decode cX4_next 51 = .ok (.baload, 1) := by decide +kernel
theorem dX4_next_52 : decode cX4_next 52 = .ok (.ifCond .ne 58, 3) := by decide +kernel
theorem dX4_next_55 : decode cX4_next 55 = .ok (.aload_n 0, 1) := by decide +kernel
theorem dX4_next_56 : decode cX4_next 56 = .ok (.iload 8, 2) := by decide +kernel
theorem dX4_next_58 : decode cX4_next 58 = .ok (.iconst 0, 1) := by decide +kernel
theorem dX4_next_59 : decode cX4_next 59 = .ok (.invokevirtual 130, 3) := by decide +kernel
theorem dX4_next_62 : decode cX4_next 62 = .ok (.ifCond .eq 6, 3) := by decide +kernel
theorem dX4_next_65 : decode cX4_next 65 = .ok (.goto 45, 3) := by decide +kernel
theorem dX4_next_68 : decode cX4_next 68 = .ok (.iload 6, 2) := by decide +kernel
theorem dX4_next_70 : decode cX4_next 70 = .ok (.aload_n 0, 1) := by decide +kernel
theorem dX4_next_71 : decode cX4_next 71 = .ok (.iload 8, 2) := by decide +kernel
theorem dX4_next_73 : decode cX4_next 73 = .ok (.iload 5, 2) := by decide +kernel
theorem dX4_next_75 : decode cX4_next 75 = .ok (.invokevirtual 130, 3) := by decide +kernel
theorem dX4_next_78 : decode cX4_next 78 = .ok (.ifCond .eq 7, 3) := by decide +kernel
theorem dX4_next_81 : decode cX4_next 81 = .ok (.iconst 1, 1) := by decide +kernel
theorem dX4_next_82 : decode cX4_next 82 = .ok (.goto 4, 3) := by decide +kernel
theorem dX4_next_85 : decode cX4_next 85 = .ok (.iconst 0, 1) := by decide +kernel
theorem dX4_next_86 : decode cX4_next 86 = .ok (.iadd, 1) := by decide +kernel
theorem dX4_next_87 : decode cX4_next 87 = .ok (.istore 6, 2) := by decide +kernel
theorem dX4_next_89 : decode cX4_next 89 = .ok (.iload 7, 2) := by decide +kernel
theorem dX4_next_91 : decode cX4_next 91 = .ok (.aload_n 0, 1) := by decide +kernel
theorem dX4_next_92 : decode cX4_next 92 = .ok (.iload 8, 2) := by decide +kernel
theorem dX4_next_94 : decode cX4_next 94 = .ok (.iload 5, 2) := by decide +kernel
theorem dX4_next_96 : decode cX4_next 96 = .ok (.invokevirtual 124, 3) := by decide +kernel
theorem dX4_next_99 : decode cX4_next 99 = .ok (.ifCond .eq 7, 3) := by decide +kernel
theorem dX4_next_102 : decode cX4_next 102 = .ok (.iconst 0, 1) := by decide +kernel
theorem dX4_next_103 : decode cX4_next 103 = .ok (.goto 4, 3) := by decide +kernel
theorem dX4_next_106 : decode cX4_next 106 = .ok (.iconst 1, 1) := by decide +kernel
theorem dX4_next_107 : decode cX4_next 107 = .ok (.iadd, 1) := by decide +kernel
theorem dX4_next_108 : decode cX4_next 108 = .ok (.istore 7, 2) := by decide +kernel
theorem dX4_next_110 : decode cX4_next 110 = .ok (.iinc 8 1, 3) := by decide +kernel
theorem dX4_next_113 : decode cX4_next 113 = .ok (.goto (-77), 3) := by decide +kernel
theorem dX4_next_116 : decode cX4_next 116 = .ok (.iload 4, 2) := by decide +kernel
theorem dX4_next_118 : decode cX4_next 118 = .ok (.ifCond .ne 8, 3) := by decide +kernel
theorem dX4_next_121 : decode cX4_next 121 = .ok (.iload 7, 2) := by decide +kernel
theorem dX4_next_123 : decode cX4_next 123 = .ok (.ifCond .le 7, 3) := by decide +kernel
theorem dX4_next_126 : decode cX4_next 126 = .ok (.iconst 1, 1) := by decide +kernel
theorem dX4_next_127 : decode cX4_next 127 = .ok (.goto 4, 3) := by decide +kernel
theorem dX4_next_130 : decode cX4_next 130 = .ok (.iconst 0, 1) := by decide +kernel
theorem dX4_next_131 : decode cX4_next 131 = .ok (.istore 4, 2) := by decide +kernel
theorem dX4_next_133 : decode cX4_next 133 = .ok (.iload 6, 2) := by decide +kernel
theorem dX4_next_135 : decode cX4_next 135 = .ok (.iload_n 2, 1) := by decide +kernel
theorem dX4_next_136 : decode cX4_next 136 = .ok (.if_icmp .lt 27, 3) := by decide +kernel
theorem dX4_next_139 : decode cX4_next 139 = .ok (.iload 6, 2) := by decide +kernel
theorem dX4_next_141 : decode cX4_next 141 = .ok (.iload_n 2, 1) := by decide +kernel
theorem dX4_next_142 : decode cX4_next 142 = .ok (.if_icmp .ne 12, 3) := by decide +kernel
theorem dX4_next_145 : decode cX4_next 145 = .ok (.iload 7, 2) := by decide +kernel
theorem dX4_next_147 : decode cX4_next 147 = .ok (.iload_n 3, 1) := by decide +kernel
theorem dX4_next_148 : decode cX4_next 148 = .ok (.if_icmp .gt 6, 3) := by decide +kernel
theorem dX4_next_151 : decode cX4_next 151 = .ok (.goto 12, 3) := by decide +kernel
theorem dX4_next_154 : decode cX4_next 154 = .ok (.iload 6, 2) := by decide +kernel
theorem dX4_next_156 : decode cX4_next 156 = .ok (.istore_n 2, 1) := by decide +kernel
theorem dX4_next_157 : decode cX4_next 157 = .ok (.iload 7, 2) := by decide +kernel
theorem dX4_next_159 : decode cX4_next 159 = .ok (.istore_n 3, 1) := by decide +kernel
theorem dX4_next_160 : decode cX4_next 160 = .ok (.iload 5, 2) := by decide +kernel
theorem dX4_next_162 : decode cX4_next 162 = .ok (.istore_n 1, 1) := by decide +kernel
theorem dX4_next_163 : decode cX4_next 163 = .ok (.iinc 5 1, 3) := by decide +kernel
theorem dX4_next_166 : decode cX4_next 166 = .ok (.goto (-150), 3) := by decide +kernel
theorem dX4_next_169 : decode cX4_next 169 = .ok (.iload 4, 2) := by decide +kernel
theorem dX4_next_171 : decode cX4_next 171 = .ok (.ifCond .eq 7, 3) := by decide +kernel
theorem dX4_next_174 : decode cX4_next 174 = .ok (.iload_n 1, 1) := by decide +kernel
theorem dX4_next_175 : decode cX4_next 175 = .ok (.goto 4, 3) := by decide +kernel
theorem dX4_next_178 : decode cX4_next 178 = .ok (.iconst 0, 1) := by decide +kernel
theorem dX4_next_179 : decode cX4_next 179 = .ok (.ireturn, 1) := by decide +kernel
theorem dX4_goOn_0 : decode cX4_goOn 0 = .ok (.aload_n 0, 1) := by decide +kernel
theorem dX4_goOn_1 : decode cX4_goOn 1 = .ok (.getfield 16, 3) := by decide +kernel
theorem dX4_goOn_4 : decode cX4_goOn 4 = .ok (.bipush 40, 2) := by decide +kernel
theorem dX4_goOn_6 : decode cX4_goOn 6 = .ok (.if_icmp .ne 6, 3) := by decide +kernel
theorem dX4_goOn_9 : decode cX4_goOn 9 = .ok (.bipush (-4), 2) := by decide +kernel
theorem dX4_goOn_11 : decode cX4_goOn 11 = .ok (.ireturn, 1) := by decide +kernel
theorem dX4_goOn_12 : decode cX4_goOn 12 = .ok (.aload_n 0, 1) := by decide +kernel
theorem dX4_goOn_13 : decode cX4_goOn 13 = .ok (.invokevirtual 191, 3) := by decide +kernel
theorem dX4_goOn_16 : decode cX4_goOn 16 = .ok (.istore_n 1, 1) := by decide +kernel
theorem dX4_goOn_17 : decode cX4_goOn 17 = .ok (.iload_n 1, 1) := by decide +kernel
theorem dX4_goOn_18 : decode cX4_goOn 18 = .ok (.ifCond .le 9, 3) := by decide +kernel
theorem dX4_goOn_21 : decode cX4_goOn 21 = .ok (.aload_n 0, 1) := by decide +kernel
theorem dX4_goOn_22 : decode cX4_goOn 22 = .ok (.iload_n 1, 1) := by decide +kernel
theorem dX4_goOn_23 : decode cX4_goOn 23 = .ok (.invokevirtual 105, 3) := by decide +kernel
theorem dX4_goOn_26 : decode cX4_goOn 26 = .ok (.istore_n 2, 1) := by decide +kernel
theorem dX4_goOn_27 : decode cX4_goOn 27 = .ok (.iload_n 1, 1) := by decide +kernel
theorem dX4_goOn_28 : decode cX4_goOn 28 = .ok (.ireturn, 1) := by decide +kernel
theorem dX4_finish_0 : decode cX4_finish 0 = .ok (.iconst 0, 1) := by decide +kernel
theorem dX4_finish_1 : decode cX4_finish 1 = .ok (.istore_n 1, 1) := by decide +kernel
theorem dX4_finish_2 : decode cX4_finish 2 = .ok (.iconst 1, 1) := by decide +kernel
theorem dX4_finish_3 : decode cX4_finish 3 = .ok (.istore_n 2, 1) := by decide +kernel
theorem dX4_finish_4 : decode cX4_finish 4 = .ok (.iload_n 2, 1) := by decide +kernel
theorem dX4_finish_5 : decode cX4_finish 5 = .ok (.ifCond .eq 31, 3) := by decide +kernel
theorem dX4_finish_8 : decode cX4_finish 8 = .ok (.aload_n 0, 1) := by decide +kernel
theorem dX4_finish_9 : decode cX4_finish 9 = .ok (.invokevirtual 194, 3) := by decide +kernel
theorem dX4_finish_12 : decode cX4_finish 12 = .ok (.ifCond .le 7, 3) := by decide +kernel
theorem dX4_finish_15 : decode cX4_finish 15 = .ok (.iconst 1, 1) := by decide +kernel
theorem dX4_finish_16 : decode cX4_finish 16 = .ok (.goto 4, 3) := by decide +kernel
theorem dX4_finish_19 : decode cX4_finish 19 = .ok (.iconst 0, 1) := by decide +kernel
theorem dX4_finish_20 : decode cX4_finish 20 = .ok (.istore_n 2, 1) := by decide +kernel
theorem dX4_finish_21 : decode cX4_finish 21 = .ok (.iload_n 1, 1) := by decide +kernel
theorem dX4_finish_22 : decode cX4_finish 22 = .ok (.iload_n 2, 1) := by decide +kernel
theorem dX4_finish_23 : decode cX4_finish 23 = .ok (.ifCond .eq 7, 3) := by decide +kernel
theorem dX4_finish_26 : decode cX4_finish 26 = .ok (.iconst 1, 1) := by decide +kernel
theorem dX4_finish_27 : decode cX4_finish 27 = .ok (.goto 4, 3) := by decide +kernel
theorem dX4_finish_30 : decode cX4_finish 30 = .ok (.iconst 0, 1) := by decide +kernel
theorem dX4_finish_31 : decode cX4_finish 31 = .ok (.iadd, 1) := by decide +kernel
theorem dX4_finish_32 : decode cX4_finish 32 = .ok (.istore_n 1, 1) := by decide +kernel
theorem dX4_finish_33 : decode cX4_finish 33 = .ok (.goto (-29), 3) := by decide +kernel
theorem dX4_finish_36 : decode cX4_finish 36 = .ok (.iload_n 1, 1) := by decide +kernel
theorem dX4_finish_37 : decode cX4_finish 37 = .ok (.ireturn, 1) := by decide +kernel
theorem dX4_count_0 : decode cX4_count 0 = .ok (.iconst 0, 1) := by decide +kernel
theorem dX4_count_1 : decode cX4_count 1 = .ok (.istore_n 2, 1) := by decide +kernel
theorem dX4_count_2 : decode cX4_count 2 = .ok (.iload_n 1, 1) := by decide +kernel
theorem dX4_count_3 : decode cX4_count 3 = .ok (.tableswitch 83 0 4 #[33, 38, 43, 48, 53], 33) := by decide +kernel
theorem dX4_count_36 : decode cX4_count 36 = .ok (.aload_n 0, 1) := by decide +kernel
theorem dX4_count_37 : decode cX4_count 37 = .ok (.getfield 7, 3) := by decide +kernel
theorem dX4_count_40 : decode cX4_count 40 = .ok (.ireturn, 1) := by decide +kernel
theorem dX4_count_41 : decode cX4_count 41 = .ok (.aload_n 0, 1) := by decide +kernel
theorem dX4_count_42 : decode cX4_count 42 = .ok (.getfield 13, 3) := by decide +kernel
theorem dX4_count_45 : decode cX4_count 45 = .ok (.ireturn, 1) := by decide +kernel
theorem dX4_count_46 : decode cX4_count 46 = .ok (.aload_n 0, 1) := by decide +kernel
theorem dX4_count_47 : decode cX4_count 47 = .ok (.getfield 16, 3) := by decide +kernel
theorem dX4_count_50 : decode cX4_count 50 = .ok (.ireturn, 1) := by decide +kernel
theorem dX4_count_51 : decode cX4_count 51 = .ok (.aload_n 0, 1) := by decide +kernel
theorem dX4_count_52 : decode cX4_count 52 = .ok (.invokevirtual 144, 3) := by decide +kernel
theorem dX4_count_55 : decode cX4_count 55 = .ok (.ireturn, 1) := by decide +kernel
theorem dX4_count_56 : decode cX4_count 56 = .ok (.iconst 0, 1) := by decide +kernel
theorem dX4_count_57 : decode cX4_count 57 = .ok (.istore_n 3, 1) := by decide +kernel
theorem dX4_count_58 : decode cX4_count 58 = .ok (.iload_n 3, 1) := by decide +kernel
theorem dX4_count_59 : decode cX4_count 59 = .ok (.aload_n 0, 1) := by decide +kernel
theorem dX4_count_60 : decode cX4_count 60 = .ok (.getfield 13, 3) := by decide +kernel
theorem dX4_count_63 : decode cX4_count 63 = .ok (.if_icmp .ge 21, 3) := by decide +kernel
theorem dX4_count_66 : decode cX4_count 66 = .ok (.aload_n 0, 1) := by decide +kernel
theorem dX4_count_67 : decode cX4_count 67 = .ok (.iload_n 3, 1) := by decide +kernel
theorem dX4_count_68 : decode cX4_count 68 = .ok (.invokevirtual 120, 3) := by decide +kernel
theorem dX4_count_71 : decode cX4_count 71 = .ok (.iload_n 2, 1) := by decide +kernel
theorem dX4_count_72 : decode cX4_count 72 = .ok (.aload_n 0, 1) := by decide +kernel
theorem dX4_count_73 : decode cX4_count 73 = .ok (.getfield 55, 3) := by decide +kernel
theorem dX4_count_76 : decode cX4_count 76 = .ok (.iadd, 1) := by decide +kernel
theorem dX4_count_77 : decode cX4_count 77 = .ok (.istore_n 2, 1) := by decide +kernel
theorem dX4_count_78 : decode cX4_count 78 = .ok (.iinc 3 1, 3) := by decide +kernel
theorem dX4_count_81 : decode cX4_count 81 = .ok (.goto (-23), 3) := by decide +kernel
theorem dX4_count_84 : decode cX4_count 84 = .ok (.iload_n 2, 1) := by decide +kernel
theorem dX4_count_85 : decode cX4_count 85 = .ok (.ireturn, 1) := by decide +kernel
theorem dX4_count_86 : decode cX4_count 86 = .ok (.iconst (-1), 1) := by decide +kernel
theorem dX4_count_87 : decode cX4_count 87 = .ok (.ireturn, 1) := by decide +kernel
