theorem dX10_init_0 : decode cX10_init 0 = .ok (.aload_n 0, 1) := by decide +kernel
theorem dX10_init_1 : decode cX10_init 1 = .ok (.invokespecial 1, 3) := by decide +kernel
theorem dX10_init_4 : decode cX10_init 4 = .ok (.aload_n 0, 1) := by decide +kernel
theorem dX10_init_5 : decode cX10_init 5 = .ok (.bipush 8, 2) := by decide +kernel
theorem dX10_init_7 : decode cX10_init 7 = .ok (.newarray .int, 2) := by decide +kernel
theorem dX10_init_9 : decode cX10_init 9 = .ok (.putfield 7, 3) := by decide +kernel
theorem dX10_init_12 : decode cX10_init 12 = .ok (.aload_n 0, 1) := by decide +kernel
theorem dX10_init_13 : decode cX10_init 13 = .ok (.bipush 81, 2) := by decide +kernel
theorem dX10_init_15 : decode cX10_init 15 = .ok (.newarray .int, 2) := by decide +kernel
theorem dX10_init_17 : decode cX10_init 17 = .ok (.putfield 13, 3) := by decide +kernel
theorem dX10_init_20 : decode cX10_init 20 = .ok (.aload_n 0, 1) := by decide +kernel
theorem dX10_init_21 : decode cX10_init 21 = .ok (.sipush 240, 3) := by decide +kernel
theorem dX10_init_24 : decode cX10_init 24 = .ok (.newarray .int, 2) := by decide +kernel
theorem dX10_init_26 : decode cX10_init 26 = .ok (.putfield 16, 3) := by decide +kernel
theorem dX10_init_29 : decode cX10_init 29 = .ok (.aload_n 0, 1) := by decide +kernel
theorem dX10_init_30 : decode cX10_init 30 = .ok (.iconst (-1), 1) := by decide +kernel
theorem dX10_init_31 : decode cX10_init 31 = .ok (.putfield 19, 3) := by decide +kernel
theorem dX10_init_34 : decode cX10_init 34 = .ok (.aload_n 0, 1) := by decide +kernel
theorem dX10_init_35 : decode cX10_init 35 = .ok (.bipush 8, 2) := by decide +kernel
theorem dX10_init_37 : decode cX10_init 37 = .ok (.newarray .int, 2) := by decide +kernel
theorem dX10_init_39 : decode cX10_init 39 = .ok (.putfield 23, 3) := by decide +kernel
theorem dX10_init_42 : decode cX10_init 42 = .ok (.aload_n 0, 1) := by decide +kernel
theorem dX10_init_43 : decode cX10_init 43 = .ok (.bipush 8, 2) := by decide +kernel
theorem dX10_init_45 : decode cX10_init 45 = .ok (.newarray .int, 2) := by decide +kernel
theorem dX10_init_47 : decode cX10_init 47 = .ok (.putfield 26, 3) := by decide +kernel
theorem dX10_init_50 : decode cX10_init 50 = .ok (.aload_n 0, 1) := by decide +kernel
theorem dX10_init_51 : decode cX10_init 51 = .ok (.bipush 64, 2) := by decide +kernel
theorem dX10_init_53 : decode cX10_init 53 = .ok (.newarray .boolean, 2) := by decide +kernel
theorem dX10_init_55 : decode cX10_init 55 = .ok (.putfield 29, 3) := by decide +kernel
theorem dX10_init_58 : decode cX10_init 58 = .ok (.aload_n 0, 1) := by decide +kernel
theorem dX10_init_59 : decode cX10_init 59 = .ok (.sipush 1620, 3) := by decide +kernel
theorem dX10_init_62 : decode cX10_init 62 = .ok (.newarray .int, 2) := by decide +kernel
theorem dX10_init_64 : decode cX10_init 64 = .ok (.putfield 33, 3) := by decide +kernel
theorem dX10_init_67 : decode cX10_init 67 = .ok (.aload_n 0, 1) := by decide +kernel
theorem dX10_init_68 : decode cX10_init 68 = .ok (.bipush 8, 2) := by decide +kernel
theorem dX10_init_70 : decode cX10_init 70 = .ok (.newarray .int, 2) := by decide +kernel
theorem dX10_init_72 : decode cX10_init 72 = .ok (.putfield 36, 3) := by decide +kernel
theorem dX10_init_75 : decode cX10_init 75 = .ok (.aload_n 0, 1) := by decide +kernel
theorem dX10_init_76 : decode cX10_init 76 = .ok (.bipush 8, 2) := by decide +kernel
theorem dX10_init_78 : decode cX10_init 78 = .ok (.newarray .int, 2) := by decide +kernel
theorem dX10_init_80 : decode cX10_init 80 = .ok (.putfield 39, 3) := by decide +kernel
theorem dX10_init_83 : decode cX10_init 83 = .ok (.aload_n 0, 1) := by decide +kernel
theorem dX10_init_84 : decode cX10_init 84 = .ok (.bipush 8, 2) := by decide +kernel
theorem dX10_init_86 : decode cX10_init 86 = .ok (.newarray .int, 2) := by decide +kernel
theorem dX10_init_88 : decode cX10_init 88 = .ok (.putfield 42, 3) := by decide +kernel
theorem dX10_init_91 : decode cX10_init 91 = .ok (.aload_n 0, 1) := by decide +kernel
theorem dX10_init_92 : decode cX10_init 92 = .ok (.bipush 8, 2) := by decide +kernel
theorem dX10_init_94 : decode cX10_init 94 = .ok (.newarray .int, 2) := by decide +kernel
theorem dX10_init_96 : decode cX10_init 96 = .ok (.putfield 45, 3) := by decide +kernel
theorem dX10_init_99 : decode cX10_init 99 = .ok (.aload_n 0, 1) := by decide +kernel
theorem dX10_init_100 : decode cX10_init 100 = .ok (.bipush 8, 2) := by decide +kernel
theorem dX10_init_102 : decode cX10_init 102 = .ok (.newarray .int, 2) := by decide +kernel
theorem dX10_init_104 : decode cX10_init 104 = .ok (.putfield 48, 3) := by decide +kernel
theorem dX10_init_107 : decode cX10_init 107 = .ok (.aload_n 0, 1) := by decide +kernel
theorem dX10_init_108 : decode cX10_init 108 = .ok (.bipush 15, 2) := by decide +kernel
theorem dX10_init_110 : decode cX10_init 110 = .ok (.newarray .int, 2) := by decide +kernel
theorem dX10_init_112 : decode cX10_init 112 = .ok (.putfield 51, 3) := by decide +kernel
theorem dX10_init_115 : decode cX10_init 115 = .ok (.aload_n 0, 1) := by decide +kernel
theorem dX10_init_116 : decode cX10_init 116 = .ok (.bipush 15, 2) := by decide +kernel
theorem dX10_init_118 : decode cX10_init 118 = .ok (.newarray .int, 2) := by decide +kernel
theorem dX10_init_120 : decode cX10_init 120 = .ok (.putfield 54, 3) := by decide +kernel
theorem dX10_init_123 : decode cX10_init 123 = .ok (.aload_n 0, 1) := by decide +kernel
theorem dX10_init_124 : decode cX10_init 124 = .ok (.sipush 164, 3) := by decide +kernel
theorem dX10_init_127 : decode cX10_init 127 = .ok (.newarray .int, 2) := by decide +kernel
theorem dX10_init_129 : decode cX10_init 129 = .ok (.putfield 57, 3) := by decide +kernel
theorem dX10_init_132 : decode cX10_init 132 = .ok (.aload_n 0, 1) := by decide +kernel
theorem dX10_init_133 : decode cX10_init 133 = .ok (.iconst 2, 1) := by decide +kernel
theorem dX10_init_134 : decode cX10_init 134 = .ok (.newarray .boolean, 2) := by decide +kernel
theorem dX10_init_136 : decode cX10_init 136 = .ok (.putfield 60, 3) := by decide +kernel
theorem dX10_init_139 : decode cX10_init 139 = .ok (.iconst 0, 1) := by decide +kernel
theorem dX10_init_140 : decode cX10_init 140 = .ok (.istore_n 1, 1) := by decide +kernel
theorem dX10_init_141 : decode cX10_init 141 = .ok (.iload_n 1, 1) := by decide +kernel
theorem dX10_init_142 : decode cX10_init 142 = .ok (.bipush 64, 2) := by decide +kernel
theorem dX10_init_144 : decode cX10_init 144 = .ok (.if_icmp .ge 19, 3) := by decide +kernel
theorem dX10_init_147 : decode cX10_init 147 = .ok (.aload_n 0, 1) := by decide +kernel
theorem dX10_init_148 : decode cX10_init 148 = .ok (.getfield 13, 3) := by decide +kernel
theorem dX10_init_151 : decode cX10_init 151 = .ok (.bipush 16, 2) := by decide +kernel
theorem dX10_init_153 : decode cX10_init 153 = .ok (.iload_n 1, 1) := by decide +kernel
theorem dX10_init_154 : decode cX10_init 154 = .ok (.iadd, 1) := by decide +kernel
theorem dX10_init_155 : decode cX10_init 155 = .ok (.iconst (-1), 1) := by decide +kernel
theorem dX10_init_156 : decode cX10_init 156 = .ok (.iastore, 1) := by decide +kernel
theorem dX10_init_157 : decode cX10_init 157 = .ok (.iinc 1 1, 3) := by decide +kernel
theorem dX10_init_160 : decode cX10_init 160 = .ok (.goto (-19), 3) := by decide +kernel
theorem dX10_init_163 : decode cX10_init 163 = .ok (.return_, 1) := by decide +kernel
theorem dX10_in_0 : decode cX10_in 0 = .ok (.lload_n 0, 1) := by decide +kernel
theorem dX10_in_1 : decode cX10_in 1 = .ok (.lload_n 2, 1) := by decide +kernel
theorem dX10_in_2 : decode cX10_in 2 = .ok (.lcmp, 1) := by decide +kernel
theorem dX10_in_3 : decode cX10_in 3 = .ok (.ifCond .lt 14, 3) := by decide +kernel
theorem dX10_in_6 : decode cX10_in 6 = .ok (.lload_n 0, 1) := by decide +kernel
theorem dX10_in_7 : decode cX10_in 7 = .ok (.lload 4, 2) := by decide +kernel
theorem dX10_in_9 : decode cX10_in 9 = .ok (.lcmp, 1) := by decide +kernel
theorem dX10_in_10 : decode cX10_in 10 = .ok (.ifCond .gt 7, 3) := by decide +kernel
theorem dX10_in_13 : decode cX10_in 13 = .ok (.iconst 1, 1) := by decide +kernel
theorem dX10_in_14 : decode cX10_in 14 = .ok (.goto 4, 3) := by decide +kernel
theorem dX10_in_17 : decode cX10_in 17 = .ok (.iconst 0, 1) := by decide +kernel
theorem dX10_in_18 : decode cX10_in 18 = .ok (.ireturn, 1) := by decide +kernel
theorem dX10_has_0 : decode cX10_has 0 = .ok (.iload_n 0, 1) := by decide +kernel
theorem dX10_has_1 : decode cX10_has 1 = .ok (.iload_n 1, 1) := by decide +kernel
theorem dX10_has_2 : decode cX10_has 2 = .ok (.ishr, 1) := by decide +kernel
theorem dX10_has_3 : decode cX10_has 3 = .ok (.iconst 1, 1) := by decide +kernel
theorem dX10_has_4 : decode cX10_has 4 = .ok (.iand, 1) := by decide +kernel
theorem dX10_has_5 : decode cX10_has 5 = .ok (.iconst 1, 1) := by decide +kernel
theorem dX10_has_6 : decode cX10_has 6 = .ok (.if_icmp .ne 7, 3) := by decide +kernel
theorem dX10_has_9 : decode cX10_has 9 = .ok (.iconst 1, 1) := by decide +kernel
theorem dX10_has_10 : decode cX10_has 10 = .ok (.goto 4, 3) := by decide +kernel
theorem dX10_has_13 : decode cX10_has 13 = .ok (.iconst 0, 1) := by decide +kernel
theorem dX10_has_14 : decode cX10_has 14 = .ok (.ireturn, 1) := by decide +kernel
theorem dX10_bits_0 : decode cX10_bits 0 = .ok (.iconst 0, 1) := by decide +kernel
theorem dX10_bits_1 : decode cX10_bits 1 = .ok (.istore_n 1, 1) := by decide +kernel
theorem dX10_bits_2 : decode cX10_bits 2 = .ok (.iconst 0, 1) := by decide +kernel
theorem dX10_bits_3 : decode cX10_bits 3 = .ok (.istore_n 2, 1) := by decide +kernel
theorem dX10_bits_4 : decode cX10_bits 4 = .ok (.iload_n 2, 1) := by decide +kernel
theorem dX10_bits_5 : decode cX10_bits 5 = .ok (.bipush 8, 2) := by decide +kernel
theorem dX10_bits_7 : decode cX10_bits 7 = .ok (.if_icmp .ge 17, 3) := by decide +kernel
theorem dX10_bits_10 : decode cX10_bits 10 = .ok (.iload_n 1, 1) := by decide +kernel
theorem dX10_bits_11 : decode cX10_bits 11 = .ok (.iload_n 0, 1) := by decide +kernel
theorem dX10_bits_12 : decode cX10_bits 12 = .ok (.iload_n 2, 1) := by decide +kernel
theorem dX10_bits_13 : decode cX10_bits 13 = .ok (.ishr, 1) := by decide +kernel
theorem dX10_bits_14 : decode cX10_bits 14 = .ok (.iconst 1, 1) := by decide +kernel
theorem dX10_bits_15 : decode cX10_bits 15 = .ok (.iand, 1) := by decide +kernel
theorem dX10_bits_16 : decode cX10_bits 16 = .ok (.iadd, 1) := by decide +kernel
theorem dX10_bits_17 : decode cX10_bits 17 = .ok (.istore_n 1, 1) := by decide +kernel
theorem dX10_bits_18 : decode cX10_bits 18 = .ok (.iinc 2 1, 3) := by decide +kernel
theorem dX10_bits_21 : decode cX10_bits 21 = .ok (.goto (-17), 3) := by decide +kernel
theorem dX10_bits_24 : decode cX10_bits 24 = .ok (.iload_n 1, 1) := by decide +kernel
theorem dX10_bits_25 : decode cX10_bits 25 = .ok (.ireturn, 1) := by decide +kernel
theorem dX10_isPerson_0 : decode cX10_isPerson 0 = .ok (.iload_n 1, 1) := by decide +kernel
theorem dX10_isPerson_1 : decode cX10_isPerson 1 = .ok (.i2l, 1) := by decide +kernel
theorem dX10_isPerson_2 : decode cX10_isPerson 2 = .ok (.lconst 0, 1) := by decide +kernel
theorem dX10_isPerson_3 : decode cX10_isPerson 3 = .ok (.aload_n 0, 1) := by decide +kernel
theorem dX10_isPerson_4 : decode cX10_isPerson 4 = .ok (.getfield 63, 3) := by decide +kernel
theorem dX10_isPerson_7 : decode cX10_isPerson 7 = .ok (.iconst 1, 1) := by decide +kernel
theorem dX10_isPerson_8 : decode cX10_isPerson 8 = .ok (.isub, 1) := by decide +kernel
theorem dX10_isPerson_9 : decode cX10_isPerson 9 = .ok (.i2l, 1) := by decide +kernel
theorem dX10_isPerson_10 : decode cX10_isPerson 10 = .ok (.invokestatic 66, 3) := by decide +kernel
theorem dX10_isPerson_13 : decode cX10_isPerson 13 = .ok (.ireturn, 1) := by decide +kernel
theorem dX10_areTwo_0 : decode cX10_areTwo 0 = .ok (.aload_n 0, 1) := by decide +kernel
theorem dX10_areTwo_1 : decode cX10_areTwo 1 = .ok (.iload_n 1, 1) := by decide +kernel
theorem dX10_areTwo_2 : decode cX10_areTwo 2 = .ok (.invokevirtual 70, 3) := by decide +kernel
theorem dX10_areTwo_5 : decode cX10_areTwo 5 = .ok (.ifCond .eq 20, 3) := by decide +kernel
theorem dX10_areTwo_8 : decode cX10_areTwo 8 = .ok (.aload_n 0, 1) := by decide +kernel
theorem dX10_areTwo_9 : decode cX10_areTwo 9 = .ok (.iload_n 2, 1) := by decide +kernel
theorem dX10_areTwo_10 : decode cX10_areTwo 10 = .ok (.invokevirtual 70, 3) := by decide +kernel
theorem dX10_areTwo_13 : decode cX10_areTwo 13 = .ok (.ifCond .eq 12, 3) := by decide +kernel
theorem dX10_areTwo_16 : decode cX10_areTwo 16 = .ok (.iload_n 1, 1) := by decide +kernel
theorem dX10_areTwo_17 : decode cX10_areTwo 17 = .ok (.iload_n 2, 1) := by decide +kernel
theorem dX10_areTwo_18 : decode cX10_areTwo 18 = .ok (.if_icmp .eq 7, 3) := by decide +kernel
theorem dX10_areTwo_21 : decode cX10_areTwo 21 = .ok (.iconst 1, 1) := by decide +kernel
theorem dX10_areTwo_22 : decode cX10_areTwo 22 = .ok (.goto 4, 3) := by decide +kernel
theorem dX10_areTwo_25 : decode cX10_areTwo 25 = .ok (.iconst 0, 1) := by decide +kernel
theorem dX10_areTwo_26 : decode cX10_areTwo 26 = .ok (.ireturn, 1) := by decide +kernel
theorem dX10_isRow_0 : decode cX10_isRow 0 = .ok (.iload_n 1, 1) := by decide +kernel
theorem dX10_isRow_1 : decode cX10_isRow 1 = .ok (.i2l, 1) := by decide +kernel
theorem dX10_isRow_2 : decode cX10_isRow 2 = .ok (.lconst 0, 1) := by decide +kernel
theorem dX10_isRow_3 : decode cX10_isRow 3 = .ok (.iconst 1, 1) := by decide +kernel
theorem dX10_isRow_4 : decode cX10_isRow 4 = .ok (.aload_n 0, 1) := by decide +kernel
theorem dX10_isRow_5 : decode cX10_isRow 5 = .ok (.getfield 63, 3) := by decide +kernel
theorem dX10_isRow_8 : decode cX10_isRow 8 = .ok (.ishl, 1) := by decide +kernel
theorem dX10_isRow_9 : decode cX10_isRow 9 = .ok (.iconst 1, 1) := by decide +kernel
theorem dX10_isRow_10 : decode cX10_isRow 10 = .ok (.isub, 1) := by decide +kernel
theorem dX10_isRow_11 : decode cX10_isRow 11 = .ok (.i2l, 1) := by decide +kernel
theorem dX10_isRow_12 : decode cX10_isRow 12 = .ok (.invokestatic 66, 3) := by decide +kernel
theorem dX10_isRow_15 : decode cX10_isRow 15 = .ok (.ireturn, 1) := by decide +kernel
theorem dX10_feed_0 : decode cX10_feed 0 = .ok (.iload_n 1, 1) := by decide +kernel
theorem dX10_feed_1 : decode cX10_feed 1 = .ok (.i2l, 1) := by decide +kernel
theorem dX10_feed_2 : decode cX10_feed 2 = .ok (.lconst 0, 1) := by decide +kernel
theorem dX10_feed_3 : decode cX10_feed 3 = .ok (.ldc2_w 74, 3) := by decide +kernel
theorem dX10_feed_6 : decode cX10_feed 6 = .ok (.invokestatic 66, 3) := by decide +kernel
theorem dX10_feed_9 : decode cX10_feed 9 = .ok (.ifCond .ne 6, 3) := by decide +kernel
theorem dX10_feed_12 : decode cX10_feed 12 = .ok (.ldc 76, 2) := by decide +kernel
theorem dX10_feed_14 : decode cX10_feed 14 = .ok (.ireturn, 1) := by decide +kernel
theorem dX10_feed_15 : decode cX10_feed 15 = .ok (.aload_n 0, 1) := by decide +kernel
theorem dX10_feed_16 : decode cX10_feed 16 = .ok (.getfield 77, 3) := by decide +kernel
theorem dX10_feed_19 : decode cX10_feed 19 = .ok (.sipush 240, 3) := by decide +kernel
theorem dX10_feed_22 : decode cX10_feed 22 = .ok (.if_icmp .ne 6, 3) := by decide +kernel
theorem dX10_feed_25 : decode cX10_feed 25 = .ok (.ldc 80, 2) := by decide +kernel
theorem dX10_feed_27 : decode cX10_feed 27 = .ok (.ireturn, 1) := by decide +kernel
theorem dX10_feed_28 : decode cX10_feed 28 = .ok (.aload_n 0, 1) := by decide +kernel
theorem dX10_feed_29 : decode cX10_feed 29 = .ok (.getfield 16, 3) := by decide +kernel
theorem dX10_feed_32 : decode cX10_feed 32 = .ok (.aload_n 0, 1) := by decide +kernel
theorem dX10_feed_33 : decode cX10_feed 33 = .ok (.getfield 77, 3) := by decide +kernel
theorem dX10_feed_36 : decode cX10_feed 36 = .ok (.iload_n 1, 1) := by decide +kernel
theorem dX10_feed_37 : decode cX10_feed 37 = .ok (.iastore, 1) := by decide +kernel
theorem dX10_feed_38 : decode cX10_feed 38 = .ok (.aload_n 0, 1) := by decide +kernel
theorem dX10_feed_39 : decode cX10_feed 39 = .ok (.dup, 1) := by decide +kernel
theorem dX10_feed_40 : decode cX10_feed 40 = .ok (.getfield 77, 3) := by decide +kernel
theorem dX10_feed_43 : decode cX10_feed 43 = .ok (.iconst 1, 1) := by decide +kernel
theorem dX10_feed_44 : decode cX10_feed 44 = .ok (.iadd, 1) := by decide +kernel
theorem dX10_feed_45 : decode cX10_feed 45 = .ok (.putfield 77, 3) := by decide +kernel
theorem dX10_feed_48 : decode cX10_feed 48 = .ok (.aload_n 0, 1) := by decide +kernel
theorem dX10_feed_49 : decode cX10_feed 49 = .ok (.getfield 77, 3) := by decide +kernel
theorem dX10_feed_52 : decode cX10_feed 52 = .ok (.ireturn, 1) := by decide +kernel
theorem dX10_here_0 : decode cX10_here 0 = .ok (.aload_n 0, 1) := by decide +kernel
theorem dX10_here_1 : decode cX10_here 1 = .ok (.getfield 81, 3) := by decide +kernel
theorem dX10_here_4 : decode cX10_here 4 = .ok (.aload_n 0, 1) := by decide +kernel
theorem dX10_here_5 : decode cX10_here 5 = .ok (.getfield 77, 3) := by decide +kernel
theorem dX10_here_8 : decode cX10_here 8 = .ok (.if_icmp .ge 30, 3) := by decide +kernel
theorem dX10_here_11 : decode cX10_here 11 = .ok (.aload_n 0, 1) := by decide +kernel
theorem dX10_here_12 : decode cX10_here 12 = .ok (.getfield 16, 3) := by decide +kernel
theorem dX10_here_15 : decode cX10_here 15 = .ok (.aload_n 0, 1) := by decide +kernel
theorem dX10_here_16 : decode cX10_here 16 = .ok (.getfield 81, 3) := by decide +kernel
theorem dX10_here_19 : decode cX10_here 19 = .ok (.iaload, 1) := by decide +kernel
theorem dX10_here_20 : decode cX10_here 20 = .ok (.bipush 32, 2) := by decide +kernel
theorem dX10_here_22 : decode cX10_here 22 = .ok (.if_icmp .ne 16, 3) := by decide +kernel
theorem dX10_here_25 : decode cX10_here 25 = .ok (.aload_n 0, 1) := by decide +kernel
theorem dX10_here_26 : decode cX10_here 26 = .ok (.dup, 1) := by decide +kernel
theorem dX10_here_27 : decode cX10_here 27 = .ok (.getfield 81, 3) := by decide +kernel
theorem dX10_here_30 : decode cX10_here 30 = .ok (.iconst 1, 1) := by decide +kernel
theorem dX10_here_31 : decode cX10_here 31 = .ok (.iadd, 1) := by decide +kernel
theorem dX10_here_32 : decode cX10_here 32 = .ok (.putfield 81, 3) := by decide +kernel
theorem dX10_here_35 : decode cX10_here 35 = .ok (.goto (-35), 3) := by decide +kernel
theorem dX10_here_38 : decode cX10_here 38 = .ok (.aload_n 0, 1) := by decide +kernel
theorem dX10_here_39 : decode cX10_here 39 = .ok (.getfield 81, 3) := by decide +kernel
theorem dX10_here_42 : decode cX10_here 42 = .ok (.aload_n 0, 1) := by decide +kernel
theorem dX10_here_43 : decode cX10_here 43 = .ok (.getfield 77, 3) := by decide +kernel
theorem dX10_here_46 : decode cX10_here 46 = .ok (.if_icmp .ge 15, 3) := by decide +kernel
theorem dX10_here_49 : decode cX10_here 49 = .ok (.aload_n 0, 1) := by decide +kernel
theorem dX10_here_50 : decode cX10_here 50 = .ok (.getfield 16, 3) := by decide +kernel
theorem dX10_here_53 : decode cX10_here 53 = .ok (.aload_n 0, 1) := by decide +kernel
theorem dX10_here_54 : decode cX10_here 54 = .ok (.getfield 81, 3) := by decide +kernel
theorem dX10_here_57 : decode cX10_here 57 = .ok (.iaload, 1) := by decide +kernel
theorem dX10_here_58 : decode cX10_here 58 = .ok (.goto 4, 3) := by decide +kernel
theorem dX10_here_61 : decode cX10_here 61 = .ok (.iconst (-1), 1) := by decide +kernel
theorem dX10_here_62 : decode cX10_here 62 = .ok (.ireturn, 1) := by decide +kernel
theorem dX10_fails_0 : decode cX10_fails 0 = .ok (.aload_n 0, 1) := by decide +kernel
theorem dX10_fails_1 : decode cX10_fails 1 = .ok (.iload_n 2, 1) := by decide +kernel
theorem dX10_fails_2 : decode cX10_fails 2 = .ok (.putfield 19, 3) := by decide +kernel
theorem dX10_fails_5 : decode cX10_fails 5 = .ok (.iload_n 1, 1) := by decide +kernel
theorem dX10_fails_6 : decode cX10_fails 6 = .ok (.ireturn, 1) := by decide +kernel
theorem dX10_takeNumber_0 : decode cX10_takeNumber 0 = .ok (.aload_n 0, 1) := by decide +kernel
theorem dX10_takeNumber_1 : decode cX10_takeNumber 1 = .ok (.invokevirtual 84, 3) := by decide +kernel
theorem dX10_takeNumber_4 : decode cX10_takeNumber 4 = .ok (.istore_n 3, 1) := by decide +kernel
theorem dX10_takeNumber_5 : decode cX10_takeNumber 5 = .ok (.iload_n 3, 1) := by decide +kernel
theorem dX10_takeNumber_6 : decode cX10_takeNumber 6 = .ok (.i2l, 1) := by decide +kernel
theorem dX10_takeNumber_7 : decode cX10_takeNumber 7 = .ok (.ldc2_w 88, 3) := by decide +kernel
theorem dX10_takeNumber_10 : decode cX10_takeNumber 10 = .ok (.ldc2_w 90, 3) := by decide +kernel
theorem dX10_takeNumber_13 : decode cX10_takeNumber 13 = .ok (.invokestatic 66, 3) := by decide +kernel
theorem dX10_takeNumber_16 : decode cX10_takeNumber 16 = .ok (.ifCond .ne 13, 3) := by decide +kernel
theorem dX10_takeNumber_19 : decode cX10_takeNumber 19 = .ok (.aload_n 0, 1) := by decide +kernel
theorem dX10_takeNumber_20 : decode cX10_takeNumber 20 = .ok (.iconst 1, 1) := by decide +kernel
theorem dX10_takeNumber_21 : decode cX10_takeNumber 21 = .ok (.aload_n 0, 1) := by decide +kernel
theorem dX10_takeNumber_22 : decode cX10_takeNumber 22 = .ok (.getfield 81, 3) := by decide +kernel
theorem dX10_takeNumber_25 : decode cX10_takeNumber 25 = .ok (.invokevirtual 92, 3) := by decide +kernel
theorem dX10_takeNumber_28 : decode cX10_takeNumber 28 = .ok (.ireturn, 1) := by decide +kernel
theorem dX10_takeNumber_29 : decode cX10_takeNumber 29 = .ok (.aload_n 0, 1) := by decide +kernel
theorem dX10_takeNumber_30 : decode cX10_takeNumber 30 = .ok (.aload_n 0, 1) := by decide +kernel
theorem dX10_takeNumber_31 : decode cX10_takeNumber 31 = .ok (.getfield 81, 3) := by decide +kernel
theorem dX10_takeNumber_34 : decode cX10_takeNumber 34 = .ok (.putfield 96, 3) := by decide +kernel
theorem dX10_takeNumber_37 : decode cX10_takeNumber 37 = .ok (.aload_n 0, 1) := by decide +kernel
theorem dX10_takeNumber_38 : decode cX10_takeNumber 38 = .ok (.iconst 0, 1) := by decide +kernel
theorem dX10_takeNumber_39 : decode cX10_takeNumber 39 = .ok (.putfield 99, 3) := by decide +kernel
theorem dX10_takeNumber_42 : decode cX10_takeNumber 42 = .ok (.aload_n 0, 1) := by decide +kernel
theorem dX10_takeNumber_43 : decode cX10_takeNumber 43 = .ok (.getfield 81, 3) := by decide +kernel
theorem dX10_takeNumber_46 : decode cX10_takeNumber 46 = .ok (.aload_n 0, 1) := by decide +kernel
theorem dX10_takeNumber_47 : decode cX10_takeNumber 47 = .ok (.getfield 77, 3) := by decide +kernel
theorem dX10_takeNumber_50 : decode cX10_takeNumber 50 = .ok (.if_icmp .ge 79, 3) := by decide +kernel
theorem dX10_takeNumber_53 : decode cX10_takeNumber 53 = .ok (.aload_n 0, 1) := by decide +kernel
theorem dX10_takeNumber_54 : decode cX10_takeNumber 54 = .ok (.getfield 16, 3) := by decide +kernel
theorem dX10_takeNumber_57 : decode cX10_takeNumber 57 = .ok (.aload_n 0, 1) := by decide +kernel
theorem dX10_takeNumber_58 : decode cX10_takeNumber 58 = .ok (.getfield 81, 3) := by decide +kernel
theorem dX10_takeNumber_61 : decode cX10_takeNumber 61 = .ok (.iaload, 1) := by decide +kernel
theorem dX10_takeNumber_62 : decode cX10_takeNumber 62 = .ok (.i2l, 1) := by decide +kernel
theorem dX10_takeNumber_63 : decode cX10_takeNumber 63 = .ok (.ldc2_w 88, 3) := by decide +kernel
theorem dX10_takeNumber_66 : decode cX10_takeNumber 66 = .ok (.ldc2_w 90, 3) := by decide +kernel
theorem dX10_takeNumber_69 : decode cX10_takeNumber 69 = .ok (.invokestatic 66, 3) := by decide +kernel
theorem dX10_takeNumber_72 : decode cX10_takeNumber 72 = .ok (.ifCond .eq 57, 3) := by decide +kernel
theorem dX10_takeNumber_75 : decode cX10_takeNumber 75 = .ok (.aload_n 0, 1) := by decide +kernel
theorem dX10_takeNumber_76 : decode cX10_takeNumber 76 = .ok (.aload_n 0, 1) := by decide +kernel
theorem dX10_takeNumber_77 : decode cX10_takeNumber 77 = .ok (.getfield 99, 3) := by decide +kernel
theorem dX10_takeNumber_80 : decode cX10_takeNumber 80 = .ok (.sipush 10000, 3) := by decide +kernel
theorem dX10_takeNumber_83 : decode cX10_takeNumber 83 = .ok (.if_icmp .le 10, 3) := by decide +kernel
theorem dX10_takeNumber_86 : decode cX10_takeNumber 86 = .ok (.aload_n 0, 1) := by decide +kernel
theorem dX10_takeNumber_87 : decode cX10_takeNumber 87 = .ok (.getfield 99, 3) := by decide +kernel
theorem dX10_takeNumber_90 : decode cX10_takeNumber 90 = .ok (.goto 23, 3) := by decide +kernel
theorem dX10_takeNumber_93 : decode cX10_takeNumber 93 = .ok (.bipush 10, 2) := by decide +kernel
theorem dX10_takeNumber_95 : decode cX10_takeNumber 95 = .ok (.aload_n 0, 1) := by decide +kernel
theorem dX10_takeNumber_96 : decode cX10_takeNumber 96 = .ok (.getfield 99, 3) := by decide +kernel
theorem dX10_takeNumber_99 : decode cX10_takeNumber 99 = .ok (.imul, 1) := by decide +kernel
theorem dX10_takeNumber_100 : decode cX10_takeNumber 100 = .ok (.aload_n 0, 1) := by decide +kernel
theorem dX10_takeNumber_101 : decode cX10_takeNumber 101 = .ok (.getfield 16, 3) := by decide +kernel
theorem dX10_takeNumber_104 : decode cX10_takeNumber 104 = .ok (.aload_n 0, 1) := by decide +kernel
theorem dX10_takeNumber_105 : decode cX10_takeNumber 105 = .ok (.getfield 81, 3) := by decide +kernel
theorem dX10_takeNumber_108 : decode cX10_takeNumber 108 = .ok (.iaload, 1) := by decide +kernel
theorem dX10_takeNumber_109 : decode cX10_takeNumber 109 = .ok (.iadd, 1) := by decide +kernel
theorem dX10_takeNumber_110 : decode cX10_takeNumber 110 = .ok (.bipush 48, 2) := by decide +kernel
theorem dX10_takeNumber_112 : decode cX10_takeNumber 112 = .ok (.isub, 1) := by decide +kernel
theorem dX10_takeNumber_113 : decode cX10_takeNumber 113 = .ok (.putfield 99, 3) := by decide +kernel
theorem dX10_takeNumber_116 : decode cX10_takeNumber 116 = .ok (.aload_n 0, 1) := by decide +kernel
theorem dX10_takeNumber_117 : decode cX10_takeNumber 117 = .ok (.dup, 1) := by decide +kernel
theorem dX10_takeNumber_118 : decode cX10_takeNumber 118 = .ok (.getfield 81, 3) := by decide +kernel
theorem dX10_takeNumber_121 : decode cX10_takeNumber 121 = .ok (.iconst 1, 1) := by decide +kernel
theorem dX10_takeNumber_122 : decode cX10_takeNumber 122 = .ok (.iadd, 1) := by decide +kernel
theorem dX10_takeNumber_123 : decode cX10_takeNumber 123 = .ok (.putfield 81, 3) := by decide +kernel
theorem dX10_takeNumber_126 : decode cX10_takeNumber 126 = .ok (.goto (-84), 3) := by decide +kernel
theorem dX10_takeNumber_129 : decode cX10_takeNumber 129 = .ok (.aload_n 0, 1) := by decide +kernel
theorem dX10_takeNumber_130 : decode cX10_takeNumber 130 = .ok (.getfield 81, 3) := by decide +kernel
theorem dX10_takeNumber_133 : decode cX10_takeNumber 133 = .ok (.aload_n 0, 1) := by decide +kernel
theorem dX10_takeNumber_134 : decode cX10_takeNumber 134 = .ok (.getfield 96, 3) := by decide +kernel
theorem dX10_takeNumber_137 : decode cX10_takeNumber 137 = .ok (.isub, 1) := by decide +kernel
theorem dX10_takeNumber_138 : decode cX10_takeNumber 138 = .ok (.iconst 3, 1) := by decide +kernel
theorem dX10_takeNumber_139 : decode cX10_takeNumber 139 = .ok (.if_icmp .gt 18, 3) := by decide +kernel
theorem dX10_takeNumber_142 : decode cX10_takeNumber 142 = .ok (.aload_n 0, 1) := by decide +kernel
theorem dX10_takeNumber_143 : decode cX10_takeNumber 143 = .ok (.getfield 99, 3) := by decide +kernel
theorem dX10_takeNumber_146 : decode cX10_takeNumber 146 = .ok (.i2l, 1) := by decide +kernel
theorem dX10_takeNumber_147 : decode cX10_takeNumber 147 = .ok (.iload_n 1, 1) := by decide +kernel
theorem dX10_takeNumber_148 : decode cX10_takeNumber 148 = .ok (.i2l, 1) := by decide +kernel
theorem dX10_takeNumber_149 : decode cX10_takeNumber 149 = .ok (.iload_n 2, 1) := by decide +kernel
theorem dX10_takeNumber_150 : decode cX10_takeNumber 150 = .ok (.i2l, 1) := by decide +kernel
theorem dX10_takeNumber_151 : decode cX10_takeNumber 151 = .ok (.invokestatic 66, 3) := by decide +kernel
theorem dX10_takeNumber_154 : decode cX10_takeNumber 154 = .ok (.ifCond .ne 15, 3) := by decide +kernel
theorem dX10_takeNumber_157 : decode cX10_takeNumber 157 = .ok (.aload_n 0, 1) := by decide +kernel
theorem dX10_takeNumber_158 : decode cX10_takeNumber 158 = .ok (.iconst 2, 1) := by decide +kernel
theorem dX10_takeNumber_159 : decode cX10_takeNumber 159 = .ok (.aload_n 0, 1) := by decide +kernel
theorem dX10_takeNumber_160 : decode cX10_takeNumber 160 = .ok (.getfield 96, 3) := by decide +kernel
theorem dX10_takeNumber_163 : decode cX10_takeNumber 163 = .ok (.invokevirtual 92, 3) := by decide +kernel
theorem dX10_takeNumber_166 : decode cX10_takeNumber 166 = .ok (.goto 4, 3) := by decide +kernel
theorem dX10_takeNumber_169 : decode cX10_takeNumber 169 = .ok (.iconst 0, 1) := by decide +kernel
theorem dX10_takeNumber_170 : decode cX10_takeNumber 170 = .ok (.ireturn, 1) := by decide +kernel
theorem dX10_into_0 : decode cX10_into 0 = .ok (.aload_n 0, 1) := by decide +kernel
theorem dX10_into_1 : decode cX10_into 1 = .ok (.iload_n 3, 1) := by decide +kernel
theorem dX10_into_2 : decode cX10_into 2 = .ok (.iload 4, 2) := by decide +kernel
theorem dX10_into_4 : decode cX10_into 4 = .ok (.invokevirtual 102, 3) := by decide +kernel
theorem dX10_into_7 : decode cX10_into 7 = .ok (.istore 5, 2) := by decide +kernel
theorem dX10_into_9 : decode cX10_into 9 = .ok (.aload_n 1, 1) := by decide +kernel
theorem dX10_into_10 : decode cX10_into 10 = .ok (.iload_n 2, 1) := by decide +kernel
theorem dX10_into_11 : decode cX10_into 11 = .ok (.aload_n 0, 1) := by decide +kernel
theorem dX10_into_12 : decode cX10_into 12 = .ok (.getfield 99, 3) := by decide +kernel
theorem dX10_into_15 : decode cX10_into 15 = .ok (.iastore, 1) := by decide +kernel
theorem dX10_into_16 : decode cX10_into 16 = .ok (.iload 5, 2) := by decide +kernel
theorem dX10_into_18 : decode cX10_into 18 = .ok (.ireturn, 1) := by decide +kernel
theorem dX10_takePerson_0 : decode cX10_takePerson 0 = .ok (.aload_n 0, 1) := by decide +kernel
theorem dX10_takePerson_1 : decode cX10_takePerson 1 = .ok (.getfield 105, 3) := by decide +kernel
theorem dX10_takePerson_4 : decode cX10_takePerson 4 = .ok (.istore_n 1, 1) := by decide +kernel
theorem dX10_takePerson_5 : decode cX10_takePerson 5 = .ok (.aload_n 0, 1) := by decide +kernel
theorem dX10_takePerson_6 : decode cX10_takePerson 6 = .ok (.dup, 1) := by decide +kernel
theorem dX10_takePerson_7 : decode cX10_takePerson 7 = .ok (.getfield 105, 3) := by decide +kernel
theorem dX10_takePerson_10 : decode cX10_takePerson 10 = .ok (.iconst 1, 1) := by decide +kernel
theorem dX10_takePerson_11 : decode cX10_takePerson 11 = .ok (.iadd, 1) := by decide +kernel
theorem dX10_takePerson_12 : decode cX10_takePerson 12 = .ok (.putfield 105, 3) := by decide +kernel
theorem dX10_takePerson_15 : decode cX10_takePerson 15 = .ok (.aload_n 0, 1) := by decide +kernel
theorem dX10_takePerson_16 : decode cX10_takePerson 16 = .ok (.aload_n 0, 1) := by decide +kernel
theorem dX10_takePerson_17 : decode cX10_takePerson 17 = .ok (.getfield 23, 3) := by decide +kernel
theorem dX10_takePerson_20 : decode cX10_takePerson 20 = .ok (.iload_n 1, 1) := by decide +kernel
theorem dX10_takePerson_21 : decode cX10_takePerson 21 = .ok (.iconst 0, 1) := by decide +kernel
theorem dX10_takePerson_22 : decode cX10_takePerson 22 = .ok (.sipush 255, 3) := by decide +kernel
theorem dX10_takePerson_25 : decode cX10_takePerson 25 = .ok (.invokevirtual 108, 3) := by decide +kernel
theorem dX10_takePerson_28 : decode cX10_takePerson 28 = .ok (.istore_n 2, 1) := by decide +kernel
theorem dX10_takePerson_29 : decode cX10_takePerson 29 = .ok (.iload_n 2, 1) := by decide +kernel
theorem dX10_takePerson_30 : decode cX10_takePerson 30 = .ok (.ifCond .le 7, 3) := by decide +kernel
theorem dX10_takePerson_33 : decode cX10_takePerson 33 = .ok (.iload_n 2, 1) := by decide +kernel
theorem dX10_takePerson_34 : decode cX10_takePerson 34 = .ok (.goto 15, 3) := by decide +kernel
theorem dX10_takePerson_37 : decode cX10_takePerson 37 = .ok (.aload_n 0, 1) := by decide +kernel
theorem dX10_takePerson_38 : decode cX10_takePerson 38 = .ok (.aload_n 0, 1) := by decide +kernel
theorem dX10_takePerson_39 : decode cX10_takePerson 39 = .ok (.getfield 26, 3) := by decide +kernel
theorem dX10_takePerson_42 : decode cX10_takePerson 42 = .ok (.iload_n 1, 1) := by decide +kernel
theorem dX10_takePerson_43 : decode cX10_takePerson 43 = .ok (.iconst 0, 1) := by decide +kernel
theorem dX10_takePerson_44 : decode cX10_takePerson 44 = .ok (.bipush 7, 2) := by decide +kernel
theorem dX10_takePerson_46 : decode cX10_takePerson 46 = .ok (.invokevirtual 108, 3) := by decide +kernel
theorem dX10_takePerson_49 : decode cX10_takePerson 49 = .ok (.ireturn, 1) := by decide +kernel
theorem dX10_takeKnows_0 : decode cX10_takeKnows 0 = .ok (.aload_n 0, 1) := by decide +kernel
theorem dX10_takeKnows_1 : decode cX10_takeKnows 1 = .ok (.iconst 0, 1) := by decide +kernel
theorem dX10_takeKnows_2 : decode cX10_takeKnows 2 = .ok (.aload_n 0, 1) := by decide +kernel
theorem dX10_takeKnows_3 : decode cX10_takeKnows 3 = .ok (.getfield 105, 3) := by decide +kernel
theorem dX10_takeKnows_6 : decode cX10_takeKnows 6 = .ok (.iconst 1, 1) := by decide +kernel
theorem dX10_takeKnows_7 : decode cX10_takeKnows 7 = .ok (.isub, 1) := by decide +kernel
theorem dX10_takeKnows_8 : decode cX10_takeKnows 8 = .ok (.invokevirtual 102, 3) := by decide +kernel
theorem dX10_takeKnows_11 : decode cX10_takeKnows 11 = .ok (.istore_n 1, 1) := by decide +kernel
theorem dX10_takeKnows_12 : decode cX10_takeKnows 12 = .ok (.aload_n 0, 1) := by decide +kernel
theorem dX10_takeKnows_13 : decode cX10_takeKnows 13 = .ok (.getfield 99, 3) := by decide +kernel
theorem dX10_takeKnows_16 : decode cX10_takeKnows 16 = .ok (.istore_n 2, 1) := by decide +kernel
theorem dX10_takeKnows_17 : decode cX10_takeKnows 17 = .ok (.iload_n 1, 1) := by decide +kernel
theorem dX10_takeKnows_18 : decode cX10_takeKnows 18 = .ok (.ifCond .le 7, 3) := by decide +kernel
theorem dX10_takeKnows_21 : decode cX10_takeKnows 21 = .ok (.iload_n 1, 1) := by decide +kernel
theorem dX10_takeKnows_22 : decode cX10_takeKnows 22 = .ok (.goto 14, 3) := by decide +kernel
theorem dX10_takeKnows_25 : decode cX10_takeKnows 25 = .ok (.aload_n 0, 1) := by decide +kernel
theorem dX10_takeKnows_26 : decode cX10_takeKnows 26 = .ok (.iconst 0, 1) := by decide +kernel
theorem dX10_takeKnows_27 : decode cX10_takeKnows 27 = .ok (.aload_n 0, 1) := by decide +kernel
theorem dX10_takeKnows_28 : decode cX10_takeKnows 28 = .ok (.getfield 105, 3) := by decide +kernel
theorem dX10_takeKnows_31 : decode cX10_takeKnows 31 = .ok (.iconst 1, 1) := by decide +kernel
theorem dX10_takeKnows_32 : decode cX10_takeKnows 32 = .ok (.isub, 1) := by decide +kernel
theorem dX10_takeKnows_33 : decode cX10_takeKnows 33 = .ok (.invokevirtual 102, 3) := by decide +kernel
theorem dX10_takeKnows_36 : decode cX10_takeKnows 36 = .ok (.istore_n 1, 1) := by decide +kernel
theorem dX10_takeKnows_37 : decode cX10_takeKnows 37 = .ok (.iload_n 1, 1) := by decide +kernel
theorem dX10_takeKnows_38 : decode cX10_takeKnows 38 = .ok (.ifCond .ne 38, 3) := by decide +kernel
theorem dX10_takeKnows_41 : decode cX10_takeKnows 41 = .ok (.aload_n 0, 1) := by decide +kernel
theorem dX10_takeKnows_42 : decode cX10_takeKnows 42 = .ok (.getfield 99, 3) := by decide +kernel
theorem dX10_takeKnows_45 : decode cX10_takeKnows 45 = .ok (.iload_n 2, 1) := by decide +kernel
theorem dX10_takeKnows_46 : decode cX10_takeKnows 46 = .ok (.if_icmp .eq 20, 3) := by decide +kernel
theorem dX10_takeKnows_49 : decode cX10_takeKnows 49 = .ok (.aload_n 0, 1) := by decide +kernel
theorem dX10_takeKnows_50 : decode cX10_takeKnows 50 = .ok (.getfield 29, 3) := by decide +kernel
theorem dX10_takeKnows_53 : decode cX10_takeKnows 53 = .ok (.bipush 8, 2) := by decide +kernel
theorem dX10_takeKnows_55 : decode cX10_takeKnows 55 = .ok (.iload_n 2, 1) := by decide +kernel
theorem dX10_takeKnows_56 : decode cX10_takeKnows 56 = .ok (.imul, 1) := by decide +kernel
theorem dX10_takeKnows_57 : decode cX10_takeKnows 57 = .ok (.aload_n 0, 1) := by decide +kernel
theorem dX10_takeKnows_58 : decode cX10_takeKnows 58 = .ok (.getfield 99, 3) := by decide +kernel
theorem dX10_takeKnows_61 : decode cX10_takeKnows 61 = .ok (.iadd, 1) := by decide +kernel
theorem dX10_takeKnows_62 : decode cX10_takeKnows 62 = .ok (.baload, 1) := by decide +kernel
theorem dX10_takeKnows_63 : decode cX10_takeKnows 63 = .ok (.ifCond .eq 13, 3) := by decide +kernel
theorem dX10_takeKnows_66 : decode cX10_takeKnows 66 = .ok (.aload_n 0, 1) := by decide +kernel
theorem dX10_takeKnows_67 : decode cX10_takeKnows 67 = .ok (.iconst 4, 1) := by decide +kernel
theorem dX10_takeKnows_68 : decode cX10_takeKnows 68 = .ok (.aload_n 0, 1) := by decide +kernel
theorem dX10_takeKnows_69 : decode cX10_takeKnows 69 = .ok (.getfield 96, 3) := by decide +kernel
theorem dX10_takeKnows_72 : decode cX10_takeKnows 72 = .ok (.invokevirtual 92, 3) := by decide +kernel
theorem dX10_takeKnows_75 : decode cX10_takeKnows 75 = .ok (.ireturn, 1) := by decide +kernel
theorem dX10_takeKnows_76 : decode cX10_takeKnows 76 = .ok (.iload_n 1, 1) := by decide +kernel
theorem dX10_takeKnows_77 : decode cX10_takeKnows 77 = .ok (.ifCond .ne 18, 3) := by decide +kernel
theorem dX10_takeKnows_80 : decode cX10_takeKnows 80 = .ok (.aload_n 0, 1) := by decide +kernel
theorem dX10_takeKnows_81 : decode cX10_takeKnows 81 = .ok (.getfield 29, 3) := by decide +kernel
theorem dX10_takeKnows_84 : decode cX10_takeKnows 84 = .ok (.bipush 8, 2) := by decide +kernel
theorem dX10_takeKnows_86 : decode cX10_takeKnows 86 = .ok (.iload_n 2, 1) := by decide +kernel
theorem dX10_takeKnows_87 : decode cX10_takeKnows 87 = .ok (.imul, 1) := by decide +kernel
theorem dX10_takeKnows_88 : decode cX10_takeKnows 88 = .ok (.aload_n 0, 1) := by decide +kernel
theorem dX10_takeKnows_89 : decode cX10_takeKnows 89 = .ok (.getfield 99, 3) := by decide +kernel
theorem dX10_takeKnows_92 : decode cX10_takeKnows 92 = .ok (.iadd, 1) := by decide +kernel
theorem dX10_takeKnows_93 : decode cX10_takeKnows 93 = .ok (.iconst 1, 1) := by decide +kernel
theorem dX10_takeKnows_94 : decode cX10_takeKnows 94 = .ok (.bastore, 1) := by decide +kernel
theorem dX10_takeKnows_95 : decode cX10_takeKnows 95 = .ok (.iload_n 1, 1) := by decide +kernel
theorem dX10_takeKnows_96 : decode cX10_takeKnows 96 = .ok (.ireturn, 1) := by decide +kernel
theorem dX10_takeClause_0 : decode cX10_takeClause 0 = .ok (.aload_n 0, 1) := by decide +kernel
theorem dX10_takeClause_1 : decode cX10_takeClause 1 = .ok (.invokevirtual 84, 3) := by decide +kernel
theorem dX10_takeClause_4 : decode cX10_takeClause 4 = .ok (.istore_n 1, 1) := by decide +kernel
theorem dX10_takeClause_5 : decode cX10_takeClause 5 = .ok (.iload_n 1, 1) := by decide +kernel
theorem dX10_takeClause_6 : decode cX10_takeClause 6 = .ok (.bipush 112, 2) := by decide +kernel
theorem dX10_takeClause_8 : decode cX10_takeClause 8 = .ok (.if_icmp .eq 19, 3) := by decide +kernel
theorem dX10_takeClause_11 : decode cX10_takeClause 11 = .ok (.iload_n 1, 1) := by decide +kernel
theorem dX10_takeClause_12 : decode cX10_takeClause 12 = .ok (.bipush 107, 2) := by decide +kernel
theorem dX10_takeClause_14 : decode cX10_takeClause 14 = .ok (.if_icmp .eq 13, 3) := by decide +kernel
theorem dX10_takeClause_17 : decode cX10_takeClause 17 = .ok (.aload_n 0, 1) := by decide +kernel
theorem dX10_takeClause_18 : decode cX10_takeClause 18 = .ok (.iconst 1, 1) := by decide +kernel
theorem dX10_takeClause_19 : decode cX10_takeClause 19 = .ok (.aload_n 0, 1) := by decide +kernel
theorem dX10_takeClause_20 : decode cX10_takeClause 20 = .ok (.getfield 81, 3) := by decide +kernel
theorem dX10_takeClause_23 : decode cX10_takeClause 23 = .ok (.invokevirtual 92, 3) := by decide +kernel
theorem dX10_takeClause_26 : decode cX10_takeClause 26 = .ok (.ireturn, 1) := by decide +kernel
theorem dX10_takeClause_27 : decode cX10_takeClause 27 = .ok (.iload_n 1, 1) := by decide +kernel
theorem dX10_takeClause_28 : decode cX10_takeClause 28 = .ok (.bipush 112, 2) := by decide +kernel
theorem dX10_takeClause_30 : decode cX10_takeClause 30 = .ok (.if_icmp .ne 22, 3) := by decide +kernel
theorem dX10_takeClause_33 : decode cX10_takeClause 33 = .ok (.aload_n 0, 1) := by decide +kernel
theorem dX10_takeClause_34 : decode cX10_takeClause 34 = .ok (.getfield 105, 3) := by decide +kernel
theorem dX10_takeClause_37 : decode cX10_takeClause 37 = .ok (.bipush 8, 2) := by decide +kernel
theorem dX10_takeClause_39 : decode cX10_takeClause 39 = .ok (.if_icmp .ne 13, 3) := by decide +kernel
theorem dX10_takeClause_42 : decode cX10_takeClause 42 = .ok (.aload_n 0, 1) := by decide +kernel
theorem dX10_takeClause_43 : decode cX10_takeClause 43 = .ok (.iconst 3, 1) := by decide +kernel
theorem dX10_takeClause_44 : decode cX10_takeClause 44 = .ok (.aload_n 0, 1) := by decide +kernel
theorem dX10_takeClause_45 : decode cX10_takeClause 45 = .ok (.getfield 81, 3) := by decide +kernel
theorem dX10_takeClause_48 : decode cX10_takeClause 48 = .ok (.invokevirtual 92, 3) := by decide +kernel
theorem dX10_takeClause_51 : decode cX10_takeClause 51 = .ok (.ireturn, 1) := by decide +kernel
theorem dX10_takeClause_52 : decode cX10_takeClause 52 = .ok (.aload_n 0, 1) := by decide +kernel
theorem dX10_takeClause_53 : decode cX10_takeClause 53 = .ok (.dup, 1) := by decide +kernel
theorem dX10_takeClause_54 : decode cX10_takeClause 54 = .ok (.getfield 81, 3) := by decide +kernel
theorem dX10_takeClause_57 : decode cX10_takeClause 57 = .ok (.iconst 1, 1) := by decide +kernel
theorem dX10_takeClause_58 : decode cX10_takeClause 58 = .ok (.iadd, 1) := by decide +kernel
theorem dX10_takeClause_59 : decode cX10_takeClause 59 = .ok (.putfield 81, 3) := by decide +kernel
theorem dX10_takeClause_62 : decode cX10_takeClause 62 = .ok (.iload_n 1, 1) := by decide +kernel
theorem dX10_takeClause_63 : decode cX10_takeClause 63 = .ok (.bipush 112, 2) := by decide +kernel
theorem dX10_takeClause_65 : decode cX10_takeClause 65 = .ok (.if_icmp .ne 10, 3) := by decide +kernel
theorem dX10_takeClause_68 : decode cX10_takeClause 68 = .ok (.aload_n 0, 1) := by decide +kernel
theorem dX10_takeClause_69 : decode cX10_takeClause 69 = .ok (.invokevirtual 112, 3) := by decide +kernel
theorem dX10_takeClause_72 : decode cX10_takeClause 72 = .ok (.goto 7, 3) := by decide +kernel
theorem dX10_takeClause_75 : decode cX10_takeClause 75 = .ok (.aload_n 0, 1) := by decide +kernel
theorem dX10_takeClause_76 : decode cX10_takeClause 76 = .ok (.invokevirtual 115, 3) := by decide +kernel
theorem dX10_takeClause_79 : decode cX10_takeClause 79 = .ok (.istore_n 2, 1) := by decide +kernel
theorem dX10_takeClause_80 : decode cX10_takeClause 80 = .ok (.iload_n 2, 1) := by decide +kernel
theorem dX10_takeClause_81 : decode cX10_takeClause 81 = .ok (.ifCond .ne 22, 3) := by decide +kernel
theorem dX10_takeClause_84 : decode cX10_takeClause 84 = .ok (.aload_n 0, 1) := by decide +kernel
theorem dX10_takeClause_85 : decode cX10_takeClause 85 = .ok (.invokevirtual 84, 3) := by decide +kernel
theorem dX10_takeClause_88 : decode cX10_takeClause 88 = .ok (.bipush 59, 2) := by decide +kernel
theorem dX10_takeClause_90 : decode cX10_takeClause 90 = .ok (.if_icmp .eq 13, 3) := by decide +kernel
theorem dX10_takeClause_93 : decode cX10_takeClause 93 = .ok (.aload_n 0, 1) := by decide +kernel
theorem dX10_takeClause_94 : decode cX10_takeClause 94 = .ok (.iconst 1, 1) := by decide +kernel
theorem dX10_takeClause_95 : decode cX10_takeClause 95 = .ok (.aload_n 0, 1) := by decide +kernel
theorem dX10_takeClause_96 : decode cX10_takeClause 96 = .ok (.getfield 81, 3) := by decide +kernel
theorem dX10_takeClause_99 : decode cX10_takeClause 99 = .ok (.invokevirtual 92, 3) := by decide +kernel
theorem dX10_takeClause_102 : decode cX10_takeClause 102 = .ok (.ireturn, 1) := by decide +kernel
theorem dX10_takeClause_103 : decode cX10_takeClause 103 = .ok (.aload_n 0, 1) := by decide +kernel
theorem dX10_takeClause_104 : decode cX10_takeClause 104 = .ok (.dup, 1) := by decide +kernel
theorem dX10_takeClause_105 : decode cX10_takeClause 105 = .ok (.getfield 81, 3) := by decide +kernel
theorem dX10_takeClause_108 : decode cX10_takeClause 108 = .ok (.iconst 1, 1) := by decide +kernel
theorem dX10_takeClause_109 : decode cX10_takeClause 109 = .ok (.iadd, 1) := by decide +kernel
theorem dX10_takeClause_110 : decode cX10_takeClause 110 = .ok (.putfield 81, 3) := by decide +kernel
theorem dX10_takeClause_113 : decode cX10_takeClause 113 = .ok (.iload_n 2, 1) := by decide +kernel
theorem dX10_takeClause_114 : decode cX10_takeClause 114 = .ok (.ireturn, 1) := by decide +kernel
theorem dX10_takeRead_0 : decode cX10_takeRead 0 = .ok (.aload_n 0, 1) := by decide +kernel
theorem dX10_takeRead_1 : decode cX10_takeRead 1 = .ok (.aload_n 0, 1) := by decide +kernel
theorem dX10_takeRead_2 : decode cX10_takeRead 2 = .ok (.getfield 105, 3) := by decide +kernel
theorem dX10_takeRead_5 : decode cX10_takeRead 5 = .ok (.putfield 63, 3) := by decide +kernel
theorem dX10_takeRead_8 : decode cX10_takeRead 8 = .ok (.iconst 0, 1) := by decide +kernel
theorem dX10_takeRead_9 : decode cX10_takeRead 9 = .ok (.istore_n 1, 1) := by decide +kernel
theorem dX10_takeRead_10 : decode cX10_takeRead 10 = .ok (.iload_n 1, 1) := by decide +kernel
theorem dX10_takeRead_11 : decode cX10_takeRead 11 = .ok (.bipush 8, 2) := by decide +kernel
theorem dX10_takeRead_13 : decode cX10_takeRead 13 = .ok (.if_icmp .ge 81, 3) := by decide +kernel
theorem dX10_takeRead_16 : decode cX10_takeRead 16 = .ok (.iload_n 1, 1) := by decide +kernel
theorem dX10_takeRead_17 : decode cX10_takeRead 17 = .ok (.aload_n 0, 1) := by decide +kernel
theorem dX10_takeRead_18 : decode cX10_takeRead 18 = .ok (.getfield 63, 3) := by decide +kernel
theorem dX10_takeRead_21 : decode cX10_takeRead 21 = .ok (.if_icmp .ge 7, 3) := by decide +kernel
theorem dX10_takeRead_24 : decode cX10_takeRead 24 = .ok (.iconst 1, 1) := by decide +kernel
theorem dX10_takeRead_25 : decode cX10_takeRead 25 = .ok (.goto 4, 3) := by decide +kernel
theorem dX10_takeRead_28 : decode cX10_takeRead 28 = .ok (.iconst 0, 1) := by decide +kernel
theorem dX10_takeRead_29 : decode cX10_takeRead 29 = .ok (.istore_n 2, 1) := by decide +kernel
theorem dX10_takeRead_30 : decode cX10_takeRead 30 = .ok (.aload_n 0, 1) := by decide +kernel
theorem dX10_takeRead_31 : decode cX10_takeRead 31 = .ok (.getfield 13, 3) := by decide +kernel
theorem dX10_takeRead_34 : decode cX10_takeRead 34 = .ok (.iload_n 1, 1) := by decide +kernel
theorem dX10_takeRead_35 : decode cX10_takeRead 35 = .ok (.iload_n 2, 1) := by decide +kernel
theorem dX10_takeRead_36 : decode cX10_takeRead 36 = .ok (.ifCond .eq 12, 3) := by decide +kernel
theorem dX10_takeRead_39 : decode cX10_takeRead 39 = .ok (.aload_n 0, 1) := by decide +kernel
theorem dX10_takeRead_40 : decode cX10_takeRead 40 = .ok (.getfield 23, 3) := by decide +kernel
theorem dX10_takeRead_43 : decode cX10_takeRead 43 = .ok (.iload_n 1, 1) := by decide +kernel
theorem dX10_takeRead_44 : decode cX10_takeRead 44 = .ok (.iaload, 1) := by decide +kernel
theorem dX10_takeRead_45 : decode cX10_takeRead 45 = .ok (.goto 4, 3) := by decide +kernel
theorem dX10_takeRead_48 : decode cX10_takeRead 48 = .ok (.iconst 0, 1) := by decide +kernel
theorem dX10_takeRead_49 : decode cX10_takeRead 49 = .ok (.iastore, 1) := by decide +kernel
theorem dX10_takeRead_50 : decode cX10_takeRead 50 = .ok (.aload_n 0, 1) := by decide +kernel
theorem dX10_takeRead_51 : decode cX10_takeRead 51 = .ok (.getfield 13, 3) := by decide +kernel
theorem dX10_takeRead_54 : decode cX10_takeRead 54 = .ok (.bipush 8, 2) := by decide +kernel
theorem dX10_takeRead_56 : decode cX10_takeRead 56 = .ok (.iload_n 1, 1) := by decide +kernel
theorem dX10_takeRead_57 : decode cX10_takeRead 57 = .ok (.iadd, 1) := by decide +kernel
theorem dX10_takeRead_58 : decode cX10_takeRead 58 = .ok (.iload_n 2, 1) := by decide +kernel
theorem dX10_takeRead_59 : decode cX10_takeRead 59 = .ok (.ifCond .eq 7, 3) := by decide +kernel
theorem dX10_takeRead_62 : decode cX10_takeRead 62 = .ok (.iload_n 1, 1) := by decide +kernel
theorem dX10_takeRead_63 : decode cX10_takeRead 63 = .ok (.goto 4, 3) := by decide +kernel
theorem dX10_takeRead_66 : decode cX10_takeRead 66 = .ok (.iconst 0, 1) := by decide +kernel
theorem dX10_takeRead_67 : decode cX10_takeRead 67 = .ok (.iastore, 1) := by decide +kernel
theorem dX10_takeRead_68 : decode cX10_takeRead 68 = .ok (.aload_n 0, 1) := by decide +kernel
theorem dX10_takeRead_69 : decode cX10_takeRead 69 = .ok (.getfield 7, 3) := by decide +kernel
theorem dX10_takeRead_72 : decode cX10_takeRead 72 = .ok (.iload_n 1, 1) := by decide +kernel
theorem dX10_takeRead_73 : decode cX10_takeRead 73 = .ok (.iload_n 2, 1) := by decide +kernel
theorem dX10_takeRead_74 : decode cX10_takeRead 74 = .ok (.ifCond .eq 12, 3) := by decide +kernel
theorem dX10_takeRead_77 : decode cX10_takeRead 77 = .ok (.aload_n 0, 1) := by decide +kernel
theorem dX10_takeRead_78 : decode cX10_takeRead 78 = .ok (.getfield 26, 3) := by decide +kernel
theorem dX10_takeRead_81 : decode cX10_takeRead 81 = .ok (.iload_n 1, 1) := by decide +kernel
theorem dX10_takeRead_82 : decode cX10_takeRead 82 = .ok (.iaload, 1) := by decide +kernel
theorem dX10_takeRead_83 : decode cX10_takeRead 83 = .ok (.goto 4, 3) := by decide +kernel
theorem dX10_takeRead_86 : decode cX10_takeRead 86 = .ok (.iconst 0, 1) := by decide +kernel
theorem dX10_takeRead_87 : decode cX10_takeRead 87 = .ok (.iastore, 1) := by decide +kernel
theorem dX10_takeRead_88 : decode cX10_takeRead 88 = .ok (.iinc 1 1, 3) := by decide +kernel
theorem dX10_takeRead_91 : decode cX10_takeRead 91 = .ok (.goto (-81), 3) := by decide +kernel
theorem dX10_takeRead_94 : decode cX10_takeRead 94 = .ok (.iconst 0, 1) := by decide +kernel
theorem dX10_takeRead_95 : decode cX10_takeRead 95 = .ok (.istore_n 1, 1) := by decide +kernel
theorem dX10_takeRead_96 : decode cX10_takeRead 96 = .ok (.iload_n 1, 1) := by decide +kernel
theorem dX10_takeRead_97 : decode cX10_takeRead 97 = .ok (.bipush 64, 2) := by decide +kernel
theorem dX10_takeRead_99 : decode cX10_takeRead 99 = .ok (.if_icmp .ge 40, 3) := by decide +kernel
theorem dX10_takeRead_102 : decode cX10_takeRead 102 = .ok (.aload_n 0, 1) := by decide +kernel
theorem dX10_takeRead_103 : decode cX10_takeRead 103 = .ok (.getfield 13, 3) := by decide +kernel
theorem dX10_takeRead_106 : decode cX10_takeRead 106 = .ok (.bipush 16, 2) := by decide +kernel
theorem dX10_takeRead_108 : decode cX10_takeRead 108 = .ok (.iload_n 1, 1) := by decide +kernel
theorem dX10_takeRead_109 : decode cX10_takeRead 109 = .ok (.iadd, 1) := by decide +kernel
theorem dX10_takeRead_110 : decode cX10_takeRead 110 = .ok (.aload_n 0, 1) := by decide +kernel
theorem dX10_takeRead_111 : decode cX10_takeRead 111 = .ok (.getfield 29, 3) := by decide +kernel
theorem dX10_takeRead_114 : decode cX10_takeRead 114 = .ok (.iload_n 1, 1) := by decide +kernel
theorem dX10_takeRead_115 : decode cX10_takeRead 115 = .ok (.baload, 1) := by decide +kernel
theorem dX10_takeRead_116 : decode cX10_takeRead 116 = .ok (.ifCond .eq 15, 3) := by decide +kernel
theorem dX10_takeRead_119 : decode cX10_takeRead 119 = .ok (.aload_n 0, 1) := by decide +kernel
theorem dX10_takeRead_120 : decode cX10_takeRead 120 = .ok (.getfield 13, 3) := by decide +kernel
theorem dX10_takeRead_123 : decode cX10_takeRead 123 = .ok (.iload_n 1, 1) := by decide +kernel
theorem dX10_takeRead_124 : decode cX10_takeRead 124 = .ok (.bipush 8, 2) := by decide +kernel
theorem dX10_takeRead_126 : decode cX10_takeRead 126 = .ok (.irem, 1) := by decide +kernel
theorem dX10_takeRead_127 : decode cX10_takeRead 127 = .ok (.iaload, 1) := by decide +kernel
theorem dX10_takeRead_128 : decode cX10_takeRead 128 = .ok (.goto 4, 3) := by decide +kernel
theorem dX10_takeRead_131 : decode cX10_takeRead 131 = .ok (.iconst (-1), 1) := by decide +kernel
theorem dX10_takeRead_132 : decode cX10_takeRead 132 = .ok (.iastore, 1) := by decide +kernel
theorem dX10_takeRead_133 : decode cX10_takeRead 133 = .ok (.iinc 1 1, 3) := by decide +kernel
theorem dX10_takeRead_136 : decode cX10_takeRead 136 = .ok (.goto (-40), 3) := by decide +kernel
theorem dX10_takeRead_139 : decode cX10_takeRead 139 = .ok (.aload_n 0, 1) := by decide +kernel
theorem dX10_takeRead_140 : decode cX10_takeRead 140 = .ok (.getfield 13, 3) := by decide +kernel
theorem dX10_takeRead_143 : decode cX10_takeRead 143 = .ok (.bipush 80, 2) := by decide +kernel
theorem dX10_takeRead_145 : decode cX10_takeRead 145 = .ok (.iconst 0, 1) := by decide +kernel
theorem dX10_takeRead_146 : decode cX10_takeRead 146 = .ok (.iastore, 1) := by decide +kernel
theorem dX10_takeRead_147 : decode cX10_takeRead 147 = .ok (.return_, 1) := by decide +kernel
theorem dX10_place_0 : decode cX10_place 0 = .ok (.aload_n 0, 1) := by decide +kernel
theorem dX10_place_1 : decode cX10_place 1 = .ok (.iconst (-1), 1) := by decide +kernel
theorem dX10_place_2 : decode cX10_place 2 = .ok (.putfield 19, 3) := by decide +kernel
theorem dX10_place_5 : decode cX10_place 5 = .ok (.aload_n 0, 1) := by decide +kernel
theorem dX10_place_6 : decode cX10_place 6 = .ok (.iconst 0, 1) := by decide +kernel
theorem dX10_place_7 : decode cX10_place 7 = .ok (.putfield 81, 3) := by decide +kernel
theorem dX10_place_10 : decode cX10_place 10 = .ok (.aload_n 0, 1) := by decide +kernel
theorem dX10_place_11 : decode cX10_place 11 = .ok (.iconst 0, 1) := by decide +kernel
theorem dX10_place_12 : decode cX10_place 12 = .ok (.putfield 105, 3) := by decide +kernel
theorem dX10_place_15 : decode cX10_place 15 = .ok (.iconst 0, 1) := by decide +kernel
theorem dX10_place_16 : decode cX10_place 16 = .ok (.istore_n 1, 1) := by decide +kernel
theorem dX10_place_17 : decode cX10_place 17 = .ok (.iload_n 1, 1) := by decide +kernel
theorem dX10_place_18 : decode cX10_place 18 = .ok (.bipush 64, 2) := by decide +kernel
theorem dX10_place_20 : decode cX10_place 20 = .ok (.if_icmp .ge 16, 3) := by decide +kernel
theorem dX10_place_23 : decode cX10_place 23 = .ok (.aload_n 0, 1) := by decide +kernel
theorem dX10_place_24 : decode cX10_place 24 = .ok (.getfield 29, 3) := by decide +kernel
theorem dX10_place_27 : decode cX10_place 27 = .ok (.iload_n 1, 1) := by decide +kernel
theorem dX10_place_28 : decode cX10_place 28 = .ok (.iconst 0, 1) := by decide +kernel
theorem dX10_place_29 : decode cX10_place 29 = .ok (.bastore, 1) := by decide +kernel
theorem dX10_place_30 : decode cX10_place 30 = .ok (.iinc 1 1, 3) := by decide +kernel
theorem dX10_place_33 : decode cX10_place 33 = .ok (.goto (-16), 3) := by decide +kernel
theorem dX10_place_36 : decode cX10_place 36 = .ok (.iconst 0, 1) := by decide +kernel
theorem dX10_place_37 : decode cX10_place 37 = .ok (.istore_n 1, 1) := by decide +kernel
theorem dX10_place_38 : decode cX10_place 38 = .ok (.iload_n 1, 1) := by decide +kernel
theorem dX10_place_39 : decode cX10_place 39 = .ok (.ifCond .ne 18, 3) := by decide +kernel
theorem dX10_place_42 : decode cX10_place 42 = .ok (.aload_n 0, 1) := by decide +kernel
theorem dX10_place_43 : decode cX10_place 43 = .ok (.invokevirtual 84, 3) := by decide +kernel
theorem dX10_place_46 : decode cX10_place 46 = .ok (.ifCond .lt 11, 3) := by decide +kernel
theorem dX10_place_49 : decode cX10_place 49 = .ok (.aload_n 0, 1) := by decide +kernel
theorem dX10_place_50 : decode cX10_place 50 = .ok (.invokevirtual 118, 3) := by decide +kernel
theorem dX10_place_53 : decode cX10_place 53 = .ok (.istore_n 1, 1) := by decide +kernel
theorem dX10_place_54 : decode cX10_place 54 = .ok (.goto (-16), 3) := by decide +kernel
theorem dX10_place_57 : decode cX10_place 57 = .ok (.aload_n 0, 1) := by decide +kernel
theorem dX10_place_58 : decode cX10_place 58 = .ok (.iconst 0, 1) := by decide +kernel
theorem dX10_place_59 : decode cX10_place 59 = .ok (.putfield 77, 3) := by decide +kernel
theorem dX10_place_62 : decode cX10_place 62 = .ok (.iload_n 1, 1) := by decide +kernel
theorem dX10_place_63 : decode cX10_place 63 = .ok (.ifCond .le 8, 3) := by decide +kernel
theorem dX10_place_66 : decode cX10_place 66 = .ok (.bipush (-10), 2) := by decide +kernel
theorem dX10_place_68 : decode cX10_place 68 = .ok (.iload_n 1, 1) := by decide +kernel
theorem dX10_place_69 : decode cX10_place 69 = .ok (.isub, 1) := by decide +kernel
theorem dX10_place_70 : decode cX10_place 70 = .ok (.ireturn, 1) := by decide +kernel
theorem dX10_place_71 : decode cX10_place 71 = .ok (.aload_n 0, 1) := by decide +kernel
theorem dX10_place_72 : decode cX10_place 72 = .ok (.invokevirtual 121, 3) := by decide +kernel
theorem dX10_place_75 : decode cX10_place 75 = .ok (.aload_n 0, 1) := by decide +kernel
theorem dX10_place_76 : decode cX10_place 76 = .ok (.iconst 0, 1) := by decide +kernel
theorem dX10_place_77 : decode cX10_place 77 = .ok (.putfield 124, 3) := by decide +kernel
theorem dX10_place_80 : decode cX10_place 80 = .ok (.aload_n 0, 1) := by decide +kernel
theorem dX10_place_81 : decode cX10_place 81 = .ok (.iconst 0, 1) := by decide +kernel
theorem dX10_place_82 : decode cX10_place 82 = .ok (.putfield 127, 3) := by decide +kernel
theorem dX10_place_85 : decode cX10_place 85 = .ok (.aload_n 0, 1) := by decide +kernel
theorem dX10_place_86 : decode cX10_place 86 = .ok (.iconst 0, 1) := by decide +kernel
theorem dX10_place_87 : decode cX10_place 87 = .ok (.putfield 130, 3) := by decide +kernel
theorem dX10_place_90 : decode cX10_place 90 = .ok (.aload_n 0, 1) := by decide +kernel
theorem dX10_place_91 : decode cX10_place 91 = .ok (.getfield 60, 3) := by decide +kernel
theorem dX10_place_94 : decode cX10_place 94 = .ok (.iconst 0, 1) := by decide +kernel
theorem dX10_place_95 : decode cX10_place 95 = .ok (.iconst 0, 1) := by decide +kernel
theorem dX10_place_96 : decode cX10_place 96 = .ok (.bastore, 1) := by decide +kernel
theorem dX10_place_97 : decode cX10_place 97 = .ok (.aload_n 0, 1) := by decide +kernel
theorem dX10_place_98 : decode cX10_place 98 = .ok (.getfield 60, 3) := by decide +kernel
theorem dX10_place_101 : decode cX10_place 101 = .ok (.iconst 1, 1) := by decide +kernel
theorem dX10_place_102 : decode cX10_place 102 = .ok (.iconst 0, 1) := by decide +kernel
theorem dX10_place_103 : decode cX10_place 103 = .ok (.bastore, 1) := by decide +kernel
theorem dX10_place_104 : decode cX10_place 104 = .ok (.aload_n 0, 1) := by decide +kernel
theorem dX10_place_105 : decode cX10_place 105 = .ok (.getfield 63, 3) := by decide +kernel
theorem dX10_place_108 : decode cX10_place 108 = .ok (.ireturn, 1) := by decide +kernel
theorem dX10_fault_0 : decode cX10_fault 0 = .ok (.aload_n 0, 1) := by decide +kernel
theorem dX10_fault_1 : decode cX10_fault 1 = .ok (.getfield 19, 3) := by decide +kernel
theorem dX10_fault_4 : decode cX10_fault 4 = .ok (.ireturn, 1) := by decide +kernel
theorem dX10_twoOfOne_0 : decode cX10_twoOfOne 0 = .ok (.iconst 0, 1) := by decide +kernel
theorem dX10_twoOfOne_1 : decode cX10_twoOfOne 1 = .ok (.istore_n 1, 1) := by decide +kernel
theorem dX10_twoOfOne_2 : decode cX10_twoOfOne 2 = .ok (.iconst 0, 1) := by decide +kernel
theorem dX10_twoOfOne_3 : decode cX10_twoOfOne 3 = .ok (.istore_n 2, 1) := by decide +kernel
theorem dX10_twoOfOne_4 : decode cX10_twoOfOne 4 = .ok (.iload_n 2, 1) := by decide +kernel
theorem dX10_twoOfOne_5 : decode cX10_twoOfOne 5 = .ok (.aload_n 0, 1) := by decide +kernel
theorem dX10_twoOfOne_6 : decode cX10_twoOfOne 6 = .ok (.getfield 63, 3) := by decide +kernel
theorem dX10_twoOfOne_9 : decode cX10_twoOfOne 9 = .ok (.if_icmp .ge 61, 3) := by decide +kernel
theorem dX10_twoOfOne_12 : decode cX10_twoOfOne 12 = .ok (.iconst 0, 1) := by decide +kernel
theorem dX10_twoOfOne_13 : decode cX10_twoOfOne 13 = .ok (.istore_n 3, 1) := by decide +kernel
theorem dX10_twoOfOne_14 : decode cX10_twoOfOne 14 = .ok (.iload_n 3, 1) := by decide +kernel
theorem dX10_twoOfOne_15 : decode cX10_twoOfOne 15 = .ok (.aload_n 0, 1) := by decide +kernel
theorem dX10_twoOfOne_16 : decode cX10_twoOfOne 16 = .ok (.getfield 63, 3) := by decide +kernel
theorem dX10_twoOfOne_19 : decode cX10_twoOfOne 19 = .ok (.if_icmp .ge 45, 3) := by decide +kernel
theorem dX10_twoOfOne_22 : decode cX10_twoOfOne 22 = .ok (.iload_n 1, 1) := by decide +kernel
theorem dX10_twoOfOne_23 : decode cX10_twoOfOne 23 = .ok (.iload_n 2, 1) := by decide +kernel
theorem dX10_twoOfOne_24 : decode cX10_twoOfOne 24 = .ok (.iload_n 3, 1) := by decide +kernel
theorem dX10_twoOfOne_25 : decode cX10_twoOfOne 25 = .ok (.if_icmp .eq 30, 3) := by decide +kernel
theorem dX10_twoOfOne_28 : decode cX10_twoOfOne 28 = .ok (.aload_n 0, 1) := by decide +kernel
theorem dX10_twoOfOne_29 : decode cX10_twoOfOne 29 = .ok (.getfield 13, 3) := by decide +kernel
theorem dX10_twoOfOne_32 : decode cX10_twoOfOne 32 = .ok (.bipush 8, 2) := by decide +kernel
theorem dX10_twoOfOne_34 : decode cX10_twoOfOne 34 = .ok (.iload_n 2, 1) := by decide +kernel
theorem dX10_twoOfOne_35 : decode cX10_twoOfOne 35 = .ok (.iadd, 1) := by decide +kernel
theorem dX10_twoOfOne_36 : decode cX10_twoOfOne 36 = .ok (.iaload, 1) := by decide +kernel
theorem dX10_twoOfOne_37 : decode cX10_twoOfOne 37 = .ok (.aload_n 0, 1) := by decide +kernel
theorem dX10_twoOfOne_38 : decode cX10_twoOfOne 38 = .ok (.getfield 13, 3) := by decide +kernel
theorem dX10_twoOfOne_41 : decode cX10_twoOfOne 41 = .ok (.bipush 8, 2) := by decide +kernel
theorem dX10_twoOfOne_43 : decode cX10_twoOfOne 43 = .ok (.iload_n 3, 1) := by decide +kernel
theorem dX10_twoOfOne_44 : decode cX10_twoOfOne 44 = .ok (.iadd, 1) := by decide +kernel
theorem dX10_twoOfOne_45 : decode cX10_twoOfOne 45 = .ok (.iaload, 1) := by decide +kernel
theorem dX10_twoOfOne_46 : decode cX10_twoOfOne 46 = .ok (.if_icmp .ne 9, 3) := by decide +kernel
theorem dX10_twoOfOne_49 : decode cX10_twoOfOne 49 = .ok (.iconst 1, 1) := by decide +kernel
theorem dX10_twoOfOne_50 : decode cX10_twoOfOne 50 = .ok (.iload_n 2, 1) := by decide +kernel
theorem dX10_twoOfOne_51 : decode cX10_twoOfOne 51 = .ok (.ishl, 1) := by decide +kernel
theorem dX10_twoOfOne_52 : decode cX10_twoOfOne 52 = .ok (.goto 4, 3) := by decide +kernel
theorem dX10_twoOfOne_55 : decode cX10_twoOfOne 55 = .ok (.iconst 0, 1) := by decide +kernel
theorem dX10_twoOfOne_56 : decode cX10_twoOfOne 56 = .ok (.ior, 1) := by decide +kernel
theorem dX10_twoOfOne_57 : decode cX10_twoOfOne 57 = .ok (.istore_n 1, 1) := by decide +kernel
theorem dX10_twoOfOne_58 : decode cX10_twoOfOne 58 = .ok (.iinc 3 1, 3) := by decide +kernel
theorem dX10_twoOfOne_61 : decode cX10_twoOfOne 61 = .ok (.goto (-47), 3) := by decide +kernel
theorem dX10_twoOfOne_64 : decode cX10_twoOfOne 64 = .ok (.iinc 2 1, 3) := by decide +kernel
theorem dX10_twoOfOne_67 : decode cX10_twoOfOne 67 = .ok (.goto (-63), 3) := by decide +kernel
theorem dX10_twoOfOne_70 : decode cX10_twoOfOne 70 = .ok (.iload_n 1, 1) := by decide +kernel
theorem dX10_twoOfOne_71 : decode cX10_twoOfOne 71 = .ok (.ireturn, 1) := by decide +kernel
theorem dX10_nobody_0 : decode cX10_nobody 0 = .ok (.iconst 1, 1) := by decide +kernel
theorem dX10_nobody_1 : decode cX10_nobody 1 = .ok (.aload_n 0, 1) := by decide +kernel
theorem dX10_nobody_2 : decode cX10_nobody 2 = .ok (.getfield 63, 3) := by decide +kernel
theorem dX10_nobody_5 : decode cX10_nobody 5 = .ok (.ishl, 1) := by decide +kernel
theorem dX10_nobody_6 : decode cX10_nobody 6 = .ok (.iconst 1, 1) := by decide +kernel
theorem dX10_nobody_7 : decode cX10_nobody 7 = .ok (.isub, 1) := by decide +kernel
theorem dX10_nobody_8 : decode cX10_nobody 8 = .ok (.istore_n 1, 1) := by decide +kernel
theorem dX10_nobody_9 : decode cX10_nobody 9 = .ok (.iconst 0, 1) := by decide +kernel
theorem dX10_nobody_10 : decode cX10_nobody 10 = .ok (.istore_n 2, 1) := by decide +kernel
theorem dX10_nobody_11 : decode cX10_nobody 11 = .ok (.iload_n 2, 1) := by decide +kernel
theorem dX10_nobody_12 : decode cX10_nobody 12 = .ok (.aload_n 0, 1) := by decide +kernel
theorem dX10_nobody_13 : decode cX10_nobody 13 = .ok (.getfield 63, 3) := by decide +kernel
theorem dX10_nobody_16 : decode cX10_nobody 16 = .ok (.if_icmp .ge 25, 3) := by decide +kernel
theorem dX10_nobody_19 : decode cX10_nobody 19 = .ok (.iload_n 1, 1) := by decide +kernel
theorem dX10_nobody_20 : decode cX10_nobody 20 = .ok (.iconst 1, 1) := by decide +kernel
theorem dX10_nobody_21 : decode cX10_nobody 21 = .ok (.aload_n 0, 1) := by decide +kernel
theorem dX10_nobody_22 : decode cX10_nobody 22 = .ok (.getfield 13, 3) := by decide +kernel
theorem dX10_nobody_25 : decode cX10_nobody 25 = .ok (.bipush 8, 2) := by decide +kernel
theorem dX10_nobody_27 : decode cX10_nobody 27 = .ok (.iload_n 2, 1) := by decide +kernel
theorem dX10_nobody_28 : decode cX10_nobody 28 = .ok (.iadd, 1) := by decide +kernel
theorem dX10_nobody_29 : decode cX10_nobody 29 = .ok (.iaload, 1) := by decide +kernel
theorem dX10_nobody_30 : decode cX10_nobody 30 = .ok (.ishl, 1) := by decide +kernel
theorem dX10_nobody_31 : decode cX10_nobody 31 = .ok (.iconst (-1), 1) := by decide +kernel
theorem dX10_nobody_32 : decode cX10_nobody 32 = .ok (.ixor, 1) := by decide +kernel
theorem dX10_nobody_33 : decode cX10_nobody 33 = .ok (.iand, 1) := by decide +kernel
theorem dX10_nobody_34 : decode cX10_nobody 34 = .ok (.istore_n 1, 1) := by decide +kernel
theorem dX10_nobody_35 : decode cX10_nobody 35 = .ok (.iinc 2 1, 3) := by decide +kernel
theorem dX10_nobody_38 : decode cX10_nobody 38 = .ok (.goto (-27), 3) := by decide +kernel
theorem dX10_nobody_41 : decode cX10_nobody 41 = .ok (.iload_n 1, 1) := by decide +kernel
theorem dX10_nobody_42 : decode cX10_nobody 42 = .ok (.ireturn, 1) := by decide +kernel
theorem dX10_remembered_0 : decode cX10_remembered 0 = .ok (.aload_n 0, 1) := by decide +kernel
theorem dX10_remembered_1 : decode cX10_remembered 1 = .ok (.getfield 13, 3) := by decide +kernel
theorem dX10_remembered_4 : decode cX10_remembered 4 = .ok (.bipush 16, 2) := by decide +kernel
theorem dX10_remembered_6 : decode cX10_remembered 6 = .ok (.bipush 8, 2) := by decide +kernel
theorem dX10_remembered_8 : decode cX10_remembered 8 = .ok (.iload_n 1, 1) := by decide +kernel
theorem dX10_remembered_9 : decode cX10_remembered 9 = .ok (.imul, 1) := by decide +kernel
theorem dX10_remembered_10 : decode cX10_remembered 10 = .ok (.iadd, 1) := by decide +kernel
theorem dX10_remembered_11 : decode cX10_remembered 11 = .ok (.iload_n 2, 1) := by decide +kernel
theorem dX10_remembered_12 : decode cX10_remembered 12 = .ok (.iadd, 1) := by decide +kernel
theorem dX10_remembered_13 : decode cX10_remembered 13 = .ok (.iaload, 1) := by decide +kernel
theorem dX10_remembered_14 : decode cX10_remembered 14 = .ok (.ireturn, 1) := by decide +kernel
theorem dX10_knownBy_0 : decode cX10_knownBy 0 = .ok (.iconst 0, 1) := by decide +kernel
theorem dX10_knownBy_1 : decode cX10_knownBy 1 = .ok (.istore_n 2, 1) := by decide +kernel
theorem dX10_knownBy_2 : decode cX10_knownBy 2 = .ok (.iconst 0, 1) := by decide +kernel
theorem dX10_knownBy_3 : decode cX10_knownBy 3 = .ok (.istore_n 3, 1) := by decide +kernel
theorem dX10_knownBy_4 : decode cX10_knownBy 4 = .ok (.iload_n 3, 1) := by decide +kernel
theorem dX10_knownBy_5 : decode cX10_knownBy 5 = .ok (.aload_n 0, 1) := by decide +kernel
theorem dX10_knownBy_6 : decode cX10_knownBy 6 = .ok (.getfield 63, 3) := by decide +kernel
theorem dX10_knownBy_9 : decode cX10_knownBy 9 = .ok (.if_icmp .ge 28, 3) := by decide +kernel
theorem dX10_knownBy_12 : decode cX10_knownBy 12 = .ok (.iload_n 2, 1) := by decide +kernel
theorem dX10_knownBy_13 : decode cX10_knownBy 13 = .ok (.aload_n 0, 1) := by decide +kernel
theorem dX10_knownBy_14 : decode cX10_knownBy 14 = .ok (.iload_n 1, 1) := by decide +kernel
theorem dX10_knownBy_15 : decode cX10_knownBy 15 = .ok (.iload_n 3, 1) := by decide +kernel
theorem dX10_knownBy_16 : decode cX10_knownBy 16 = .ok (.invokevirtual 133, 3) := by decide +kernel
theorem dX10_knownBy_19 : decode cX10_knownBy 19 = .ok (.ifCond .lt 9, 3) := by decide +kernel
theorem dX10_knownBy_22 : decode cX10_knownBy 22 = .ok (.iconst 1, 1) := by decide +kernel
theorem dX10_knownBy_23 : decode cX10_knownBy 23 = .ok (.iload_n 3, 1) := by decide +kernel
theorem dX10_knownBy_24 : decode cX10_knownBy 24 = .ok (.ishl, 1) := by decide +kernel
theorem dX10_knownBy_25 : decode cX10_knownBy 25 = .ok (.goto 4, 3) := by decide +kernel
theorem dX10_knownBy_28 : decode cX10_knownBy 28 = .ok (.iconst 0, 1) := by decide +kernel
theorem dX10_knownBy_29 : decode cX10_knownBy 29 = .ok (.ior, 1) := by decide +kernel
theorem dX10_knownBy_30 : decode cX10_knownBy 30 = .ok (.istore_n 2, 1) := by decide +kernel
theorem dX10_knownBy_31 : decode cX10_knownBy 31 = .ok (.iinc 3 1, 3) := by decide +kernel
theorem dX10_knownBy_34 : decode cX10_knownBy 34 = .ok (.goto (-30), 3) := by decide +kernel
theorem dX10_knownBy_37 : decode cX10_knownBy 37 = .ok (.iload_n 2, 1) := by decide +kernel
theorem dX10_knownBy_38 : decode cX10_knownBy 38 = .ok (.ireturn, 1) := by decide +kernel
theorem dX10_whoKnow_0 : decode cX10_whoKnow 0 = .ok (.iconst 0, 1) := by decide +kernel
theorem dX10_whoKnow_1 : decode cX10_whoKnow 1 = .ok (.istore_n 2, 1) := by decide +kernel
theorem dX10_whoKnow_2 : decode cX10_whoKnow 2 = .ok (.iconst 0, 1) := by decide +kernel
theorem dX10_whoKnow_3 : decode cX10_whoKnow 3 = .ok (.istore_n 3, 1) := by decide +kernel
theorem dX10_whoKnow_4 : decode cX10_whoKnow 4 = .ok (.iload_n 3, 1) := by decide +kernel
theorem dX10_whoKnow_5 : decode cX10_whoKnow 5 = .ok (.aload_n 0, 1) := by decide +kernel
theorem dX10_whoKnow_6 : decode cX10_whoKnow 6 = .ok (.getfield 63, 3) := by decide +kernel
theorem dX10_whoKnow_9 : decode cX10_whoKnow 9 = .ok (.if_icmp .ge 28, 3) := by decide +kernel
theorem dX10_whoKnow_12 : decode cX10_whoKnow 12 = .ok (.iload_n 2, 1) := by decide +kernel
theorem dX10_whoKnow_13 : decode cX10_whoKnow 13 = .ok (.aload_n 0, 1) := by decide +kernel
theorem dX10_whoKnow_14 : decode cX10_whoKnow 14 = .ok (.iload_n 3, 1) := by decide +kernel
theorem dX10_whoKnow_15 : decode cX10_whoKnow 15 = .ok (.iload_n 1, 1) := by decide +kernel
theorem dX10_whoKnow_16 : decode cX10_whoKnow 16 = .ok (.invokevirtual 133, 3) := by decide +kernel
theorem dX10_whoKnow_19 : decode cX10_whoKnow 19 = .ok (.ifCond .lt 9, 3) := by decide +kernel
theorem dX10_whoKnow_22 : decode cX10_whoKnow 22 = .ok (.iconst 1, 1) := by decide +kernel
theorem dX10_whoKnow_23 : decode cX10_whoKnow 23 = .ok (.iload_n 3, 1) := by decide +kernel
theorem dX10_whoKnow_24 : decode cX10_whoKnow 24 = .ok (.ishl, 1) := by decide +kernel
theorem dX10_whoKnow_25 : decode cX10_whoKnow 25 = .ok (.goto 4, 3) := by decide +kernel
theorem dX10_whoKnow_28 : decode cX10_whoKnow 28 = .ok (.iconst 0, 1) := by decide +kernel
theorem dX10_whoKnow_29 : decode cX10_whoKnow 29 = .ok (.ior, 1) := by decide +kernel
theorem dX10_whoKnow_30 : decode cX10_whoKnow 30 = .ok (.istore_n 2, 1) := by decide +kernel
theorem dX10_whoKnow_31 : decode cX10_whoKnow 31 = .ok (.iinc 3 1, 3) := by decide +kernel
theorem dX10_whoKnow_34 : decode cX10_whoKnow 34 = .ok (.goto (-30), 3) := by decide +kernel
theorem dX10_whoKnow_37 : decode cX10_whoKnow 37 = .ok (.iload_n 2, 1) := by decide +kernel
theorem dX10_whoKnow_38 : decode cX10_whoKnow 38 = .ok (.ireturn, 1) := by decide +kernel
theorem dX10_pairs_0 : decode cX10_pairs 0 = .ok (.iconst 0, 1) := by decide +kernel
theorem dX10_pairs_1 : decode cX10_pairs 1 = .ok (.istore_n 1, 1) := by decide +kernel
theorem dX10_pairs_2 : decode cX10_pairs 2 = .ok (.iconst 0, 1) := by decide +kernel
theorem dX10_pairs_3 : decode cX10_pairs 3 = .ok (.istore_n 2, 1) := by decide +kernel
theorem dX10_pairs_4 : decode cX10_pairs 4 = .ok (.iload_n 2, 1) := by decide +kernel
theorem dX10_pairs_5 : decode cX10_pairs 5 = .ok (.aload_n 0, 1) := by decide +kernel
theorem dX10_pairs_6 : decode cX10_pairs 6 = .ok (.getfield 63, 3) := by decide +kernel
theorem dX10_pairs_9 : decode cX10_pairs 9 = .ok (.if_icmp .ge 20, 3) := by decide +kernel
theorem dX10_pairs_12 : decode cX10_pairs 12 = .ok (.iload_n 1, 1) := by decide +kernel
theorem dX10_pairs_13 : decode cX10_pairs 13 = .ok (.aload_n 0, 1) := by decide +kernel
theorem dX10_pairs_14 : decode cX10_pairs 14 = .ok (.iload_n 2, 1) := by decide +kernel
theorem dX10_pairs_15 : decode cX10_pairs 15 = .ok (.invokevirtual 136, 3) := by decide +kernel
theorem dX10_pairs_18 : decode cX10_pairs 18 = .ok (.invokestatic 140, 3) := by decide +kernel
theorem dX10_pairs_21 : decode cX10_pairs 21 = .ok (.iadd, 1) := by decide +kernel
theorem dX10_pairs_22 : decode cX10_pairs 22 = .ok (.istore_n 1, 1) := by decide +kernel
theorem dX10_pairs_23 : decode cX10_pairs 23 = .ok (.iinc 2 1, 3) := by decide +kernel
theorem dX10_pairs_26 : decode cX10_pairs 26 = .ok (.goto (-22), 3) := by decide +kernel
theorem dX10_pairs_29 : decode cX10_pairs 29 = .ok (.iload_n 1, 1) := by decide +kernel
theorem dX10_pairs_30 : decode cX10_pairs 30 = .ok (.ireturn, 1) := by decide +kernel
theorem dX10_told_0 : decode cX10_told 0 = .ok (.iload_n 1, 1) := by decide +kernel
theorem dX10_told_1 : decode cX10_told 1 = .ok (.tableswitch 99 0 8 #[51, 56, 61, 69, 74, 79, 84, 89, 94], 51) := by decide +kernel
theorem dX10_told_52 : decode cX10_told 52 = .ok (.aload_n 0, 1) := by decide +kernel
theorem dX10_told_53 : decode cX10_told 53 = .ok (.getfield 63, 3) := by decide +kernel
theorem dX10_told_56 : decode cX10_told 56 = .ok (.ireturn, 1) := by decide +kernel
theorem dX10_told_57 : decode cX10_told 57 = .ok (.aload_n 0, 1) := by decide +kernel
theorem dX10_told_58 : decode cX10_told 58 = .ok (.getfield 77, 3) := by decide +kernel
theorem dX10_told_61 : decode cX10_told 61 = .ok (.ireturn, 1) := by decide +kernel
theorem dX10_told_62 : decode cX10_told 62 = .ok (.aload_n 0, 1) := by decide +kernel
theorem dX10_told_63 : decode cX10_told 63 = .ok (.getfield 13, 3) := by decide +kernel
theorem dX10_told_66 : decode cX10_told 66 = .ok (.bipush 80, 2) := by decide +kernel
theorem dX10_told_68 : decode cX10_told 68 = .ok (.iaload, 1) := by decide +kernel
theorem dX10_told_69 : decode cX10_told 69 = .ok (.ireturn, 1) := by decide +kernel
theorem dX10_told_70 : decode cX10_told 70 = .ok (.aload_n 0, 1) := by decide +kernel
theorem dX10_told_71 : decode cX10_told 71 = .ok (.invokevirtual 143, 3) := by decide +kernel
theorem dX10_told_74 : decode cX10_told 74 = .ok (.ireturn, 1) := by decide +kernel
theorem dX10_told_75 : decode cX10_told 75 = .ok (.aload_n 0, 1) := by decide +kernel
theorem dX10_told_76 : decode cX10_told 76 = .ok (.invokevirtual 146, 3) := by decide +kernel
theorem dX10_told_79 : decode cX10_told 79 = .ok (.ireturn, 1) := by decide +kernel
theorem dX10_told_80 : decode cX10_told 80 = .ok (.aload_n 0, 1) := by decide +kernel
theorem dX10_told_81 : decode cX10_told 81 = .ok (.invokevirtual 149, 3) := by decide +kernel
theorem dX10_told_84 : decode cX10_told 84 = .ok (.ireturn, 1) := by decide +kernel
theorem dX10_told_85 : decode cX10_told 85 = .ok (.aload_n 0, 1) := by decide +kernel
theorem dX10_told_86 : decode cX10_told 86 = .ok (.getfield 124, 3) := by decide +kernel
theorem dX10_told_89 : decode cX10_told 89 = .ok (.ireturn, 1) := by decide +kernel
theorem dX10_told_90 : decode cX10_told 90 = .ok (.aload_n 0, 1) := by decide +kernel
theorem dX10_told_91 : decode cX10_told 91 = .ok (.getfield 127, 3) := by decide +kernel
theorem dX10_told_94 : decode cX10_told 94 = .ok (.ireturn, 1) := by decide +kernel
theorem dX10_told_95 : decode cX10_told 95 = .ok (.aload_n 0, 1) := by decide +kernel
theorem dX10_told_96 : decode cX10_told 96 = .ok (.getfield 130, 3) := by decide +kernel
theorem dX10_told_99 : decode cX10_told 99 = .ok (.ireturn, 1) := by decide +kernel
theorem dX10_told_100 : decode cX10_told 100 = .ok (.ldc 76, 2) := by decide +kernel
theorem dX10_told_102 : decode cX10_told 102 = .ok (.ireturn, 1) := by decide +kernel
theorem dX10_person_0 : decode cX10_person 0 = .ok (.aload_n 0, 1) := by decide +kernel
theorem dX10_person_1 : decode cX10_person 1 = .ok (.iload_n 1, 1) := by decide +kernel
theorem dX10_person_2 : decode cX10_person 2 = .ok (.invokevirtual 70, 3) := by decide +kernel
theorem dX10_person_5 : decode cX10_person 5 = .ok (.ifCond .ne 6, 3) := by decide +kernel
theorem dX10_person_8 : decode cX10_person 8 = .ok (.ldc 152, 2) := by decide +kernel
theorem dX10_person_10 : decode cX10_person 10 = .ok (.ireturn, 1) := by decide +kernel
theorem dX10_person_11 : decode cX10_person 11 = .ok (.iload_n 2, 1) := by decide +kernel
theorem dX10_person_12 : decode cX10_person 12 = .ok (.tableswitch 72 0 4 #[36, 43, 50, 60, 66], 36) := by decide +kernel
theorem dX10_person_48 : decode cX10_person 48 = .ok (.aload_n 0, 1) := by decide +kernel
theorem dX10_person_49 : decode cX10_person 49 = .ok (.getfield 13, 3) := by decide +kernel
theorem dX10_person_52 : decode cX10_person 52 = .ok (.iload_n 1, 1) := by decide +kernel
theorem dX10_person_53 : decode cX10_person 53 = .ok (.iaload, 1) := by decide +kernel
theorem dX10_person_54 : decode cX10_person 54 = .ok (.ireturn, 1) := by decide +kernel
theorem dX10_person_55 : decode cX10_person 55 = .ok (.aload_n 0, 1) := by decide +kernel
theorem dX10_person_56 : decode cX10_person 56 = .ok (.getfield 7, 3) := by decide +kernel
theorem dX10_person_59 : decode cX10_person 59 = .ok (.iload_n 1, 1) := by decide +kernel
theorem dX10_person_60 : decode cX10_person 60 = .ok (.iaload, 1) := by decide +kernel
theorem dX10_person_61 : decode cX10_person 61 = .ok (.ireturn, 1) := by decide +kernel
theorem dX10_person_62 : decode cX10_person 62 = .ok (.aload_n 0, 1) := by decide +kernel
theorem dX10_person_63 : decode cX10_person 63 = .ok (.getfield 13, 3) := by decide +kernel
theorem dX10_person_66 : decode cX10_person 66 = .ok (.bipush 8, 2) := by decide +kernel
theorem dX10_person_68 : decode cX10_person 68 = .ok (.iload_n 1, 1) := by decide +kernel
theorem dX10_person_69 : decode cX10_person 69 = .ok (.iadd, 1) := by decide +kernel
theorem dX10_person_70 : decode cX10_person 70 = .ok (.iaload, 1) := by decide +kernel
theorem dX10_person_71 : decode cX10_person 71 = .ok (.ireturn, 1) := by decide +kernel
theorem dX10_person_72 : decode cX10_person 72 = .ok (.aload_n 0, 1) := by decide +kernel
theorem dX10_person_73 : decode cX10_person 73 = .ok (.iload_n 1, 1) := by decide +kernel
theorem dX10_person_74 : decode cX10_person 74 = .ok (.invokevirtual 136, 3) := by decide +kernel
theorem dX10_person_77 : decode cX10_person 77 = .ok (.ireturn, 1) := by decide +kernel
theorem dX10_person_78 : decode cX10_person 78 = .ok (.aload_n 0, 1) := by decide +kernel
theorem dX10_person_79 : decode cX10_person 79 = .ok (.iload_n 1, 1) := by decide +kernel
theorem dX10_person_80 : decode cX10_person 80 = .ok (.invokevirtual 153, 3) := by decide +kernel
theorem dX10_person_83 : decode cX10_person 83 = .ok (.ireturn, 1) := by decide +kernel
theorem dX10_person_84 : decode cX10_person 84 = .ok (.ldc 76, 2) := by decide +kernel
theorem dX10_person_86 : decode cX10_person 86 = .ok (.ireturn, 1) := by decide +kernel
theorem dX10_remembers_0 : decode cX10_remembers 0 = .ok (.aload_n 0, 1) := by decide +kernel
theorem dX10_remembers_1 : decode cX10_remembers 1 = .ok (.iload_n 1, 1) := by decide +kernel
theorem dX10_remembers_2 : decode cX10_remembers 2 = .ok (.iload_n 2, 1) := by decide +kernel
theorem dX10_remembers_3 : decode cX10_remembers 3 = .ok (.invokevirtual 156, 3) := by decide +kernel
theorem dX10_remembers_6 : decode cX10_remembers 6 = .ok (.ifCond .eq 12, 3) := by decide +kernel
theorem dX10_remembers_9 : decode cX10_remembers 9 = .ok (.aload_n 0, 1) := by decide +kernel
theorem dX10_remembers_10 : decode cX10_remembers 10 = .ok (.iload_n 1, 1) := by decide +kernel
theorem dX10_remembers_11 : decode cX10_remembers 11 = .ok (.iload_n 2, 1) := by decide +kernel
theorem dX10_remembers_12 : decode cX10_remembers 12 = .ok (.invokevirtual 133, 3) := by decide +kernel
theorem dX10_remembers_15 : decode cX10_remembers 15 = .ok (.goto 5, 3) := by decide +kernel
theorem dX10_remembers_18 : decode cX10_remembers 18 = .ok (.ldc 152, 2) := by decide +kernel
theorem dX10_remembers_20 : decode cX10_remembers 20 = .ok (.ireturn, 1) := by decide +kernel
theorem dX10_apart_0 : decode cX10_apart 0 = .ok (.iload_n 0, 1) := by decide +kernel
theorem dX10_apart_1 : decode cX10_apart 1 = .ok (.iload_n 1, 1) := by decide +kernel
theorem dX10_apart_2 : decode cX10_apart 2 = .ok (.ixor, 1) := by decide +kernel
theorem dX10_apart_3 : decode cX10_apart 3 = .ok (.invokestatic 140, 3) := by decide +kernel
theorem dX10_apart_6 : decode cX10_apart 6 = .ok (.ireturn, 1) := by decide +kernel
theorem dX10_pickBy_0 : decode cX10_pickBy 0 = .ok (.iconst (-1), 1) := by decide +kernel
theorem dX10_pickBy_1 : decode cX10_pickBy 1 = .ok (.istore_n 3, 1) := by decide +kernel
theorem dX10_pickBy_2 : decode cX10_pickBy 2 = .ok (.bipush 99, 2) := by decide +kernel
theorem dX10_pickBy_4 : decode cX10_pickBy 4 = .ok (.istore 4, 2) := by decide +kernel
theorem dX10_pickBy_6 : decode cX10_pickBy 6 = .ok (.iconst 0, 1) := by decide +kernel
theorem dX10_pickBy_7 : decode cX10_pickBy 7 = .ok (.istore 5, 2) := by decide +kernel
theorem dX10_pickBy_9 : decode cX10_pickBy 9 = .ok (.iload 5, 2) := by decide +kernel
theorem dX10_pickBy_11 : decode cX10_pickBy 11 = .ok (.aload_n 0, 1) := by decide +kernel
theorem dX10_pickBy_12 : decode cX10_pickBy 12 = .ok (.getfield 63, 3) := by decide +kernel
theorem dX10_pickBy_15 : decode cX10_pickBy 15 = .ok (.if_icmp .ge 66, 3) := by decide +kernel
theorem dX10_pickBy_18 : decode cX10_pickBy 18 = .ok (.iload_n 2, 1) := by decide +kernel
theorem dX10_pickBy_19 : decode cX10_pickBy 19 = .ok (.iload 5, 2) := by decide +kernel
theorem dX10_pickBy_21 : decode cX10_pickBy 21 = .ok (.invokestatic 160, 3) := by decide +kernel
theorem dX10_pickBy_24 : decode cX10_pickBy 24 = .ok (.ifCond .eq 17, 3) := by decide +kernel
theorem dX10_pickBy_27 : decode cX10_pickBy 27 = .ok (.aload_n 0, 1) := by decide +kernel
theorem dX10_pickBy_28 : decode cX10_pickBy 28 = .ok (.getfield 13, 3) := by decide +kernel
theorem dX10_pickBy_31 : decode cX10_pickBy 31 = .ok (.iload 5, 2) := by decide +kernel
theorem dX10_pickBy_33 : decode cX10_pickBy 33 = .ok (.iaload, 1) := by decide +kernel
theorem dX10_pickBy_34 : decode cX10_pickBy 34 = .ok (.iload_n 1, 1) := by decide +kernel
theorem dX10_pickBy_35 : decode cX10_pickBy 35 = .ok (.invokestatic 163, 3) := by decide +kernel
theorem dX10_pickBy_38 : decode cX10_pickBy 38 = .ok (.goto 5, 3) := by decide +kernel
theorem dX10_pickBy_41 : decode cX10_pickBy 41 = .ok (.bipush 99, 2) := by decide +kernel
theorem dX10_pickBy_43 : decode cX10_pickBy 43 = .ok (.istore 6, 2) := by decide +kernel
theorem dX10_pickBy_45 : decode cX10_pickBy 45 = .ok (.iload 6, 2) := by decide +kernel
theorem dX10_pickBy_47 : decode cX10_pickBy 47 = .ok (.iload 4, 2) := by decide +kernel
theorem dX10_pickBy_49 : decode cX10_pickBy 49 = .ok (.if_icmp .ge 8, 3) := by decide +kernel
theorem dX10_pickBy_52 : decode cX10_pickBy 52 = .ok (.iload 5, 2) := by decide +kernel
theorem dX10_pickBy_54 : decode cX10_pickBy 54 = .ok (.goto 4, 3) := by decide +kernel
theorem dX10_pickBy_57 : decode cX10_pickBy 57 = .ok (.iload_n 3, 1) := by decide +kernel
theorem dX10_pickBy_58 : decode cX10_pickBy 58 = .ok (.istore_n 3, 1) := by decide +kernel
theorem dX10_pickBy_59 : decode cX10_pickBy 59 = .ok (.iload 6, 2) := by decide +kernel
theorem dX10_pickBy_61 : decode cX10_pickBy 61 = .ok (.iload 4, 2) := by decide +kernel
theorem dX10_pickBy_63 : decode cX10_pickBy 63 = .ok (.if_icmp .ge 8, 3) := by decide +kernel
theorem dX10_pickBy_66 : decode cX10_pickBy 66 = .ok (.iload 6, 2) := by decide +kernel
theorem dX10_pickBy_68 : decode cX10_pickBy 68 = .ok (.goto 5, 3) := by decide +kernel
theorem dX10_pickBy_71 : decode cX10_pickBy 71 = .ok (.iload 4, 2) := by decide +kernel
theorem dX10_pickBy_73 : decode cX10_pickBy 73 = .ok (.istore 4, 2) := by decide +kernel
theorem dX10_pickBy_75 : decode cX10_pickBy 75 = .ok (.iinc 5 1, 3) := by decide +kernel
theorem dX10_pickBy_78 : decode cX10_pickBy 78 = .ok (.goto (-69), 3) := by decide +kernel
theorem dX10_pickBy_81 : decode cX10_pickBy 81 = .ok (.iload_n 3, 1) := by decide +kernel
theorem dX10_pickBy_82 : decode cX10_pickBy 82 = .ok (.ireturn, 1) := by decide +kernel
theorem dX10_sureBy_0 : decode cX10_sureBy 0 = .ok (.aload_n 0, 1) := by decide +kernel
theorem dX10_sureBy_1 : decode cX10_sureBy 1 = .ok (.iload_n 1, 1) := by decide +kernel
theorem dX10_sureBy_2 : decode cX10_sureBy 2 = .ok (.iload_n 3, 1) := by decide +kernel
theorem dX10_sureBy_3 : decode cX10_sureBy 3 = .ok (.invokevirtual 166, 3) := by decide +kernel
theorem dX10_sureBy_6 : decode cX10_sureBy 6 = .ok (.iload_n 2, 1) := by decide +kernel
theorem dX10_sureBy_7 : decode cX10_sureBy 7 = .ok (.if_icmp .eq 5, 3) := by decide +kernel
theorem dX10_sureBy_10 : decode cX10_sureBy 10 = .ok (.iconst 0, 1) := by decide +kernel
theorem dX10_sureBy_11 : decode cX10_sureBy 11 = .ok (.ireturn, 1) := by decide +kernel
theorem dX10_sureBy_12 : decode cX10_sureBy 12 = .ok (.bipush 99, 2) := by decide +kernel
theorem dX10_sureBy_14 : decode cX10_sureBy 14 = .ok (.istore 4, 2) := by decide +kernel
theorem dX10_sureBy_16 : decode cX10_sureBy 16 = .ok (.iconst 0, 1) := by decide +kernel
theorem dX10_sureBy_17 : decode cX10_sureBy 17 = .ok (.istore 5, 2) := by decide +kernel
theorem dX10_sureBy_19 : decode cX10_sureBy 19 = .ok (.iload 5, 2) := by decide +kernel
theorem dX10_sureBy_21 : decode cX10_sureBy 21 = .ok (.aload_n 0, 1) := by decide +kernel
theorem dX10_sureBy_22 : decode cX10_sureBy 22 = .ok (.getfield 63, 3) := by decide +kernel
theorem dX10_sureBy_25 : decode cX10_sureBy 25 = .ok (.if_icmp .ge 58, 3) := by decide +kernel
theorem dX10_sureBy_28 : decode cX10_sureBy 28 = .ok (.iload_n 3, 1) := by decide +kernel
theorem dX10_sureBy_29 : decode cX10_sureBy 29 = .ok (.iload 5, 2) := by decide +kernel
theorem dX10_sureBy_31 : decode cX10_sureBy 31 = .ok (.invokestatic 160, 3) := by decide +kernel
theorem dX10_sureBy_34 : decode cX10_sureBy 34 = .ok (.ifCond .eq 23, 3) := by decide +kernel
theorem dX10_sureBy_37 : decode cX10_sureBy 37 = .ok (.iload 5, 2) := by decide +kernel
theorem dX10_sureBy_39 : decode cX10_sureBy 39 = .ok (.iload_n 2, 1) := by decide +kernel
theorem dX10_sureBy_40 : decode cX10_sureBy 40 = .ok (.if_icmp .eq 17, 3) := by decide +kernel
theorem dX10_sureBy_43 : decode cX10_sureBy 43 = .ok (.aload_n 0, 1) := by decide +kernel
theorem dX10_sureBy_44 : decode cX10_sureBy 44 = .ok (.getfield 13, 3) := by decide +kernel
theorem dX10_sureBy_47 : decode cX10_sureBy 47 = .ok (.iload 5, 2) := by decide +kernel
theorem dX10_sureBy_49 : decode cX10_sureBy 49 = .ok (.iaload, 1) := by decide +kernel
theorem dX10_sureBy_50 : decode cX10_sureBy 50 = .ok (.iload_n 1, 1) := by decide +kernel
theorem dX10_sureBy_51 : decode cX10_sureBy 51 = .ok (.invokestatic 163, 3) := by decide +kernel
theorem dX10_sureBy_54 : decode cX10_sureBy 54 = .ok (.goto 5, 3) := by decide +kernel
theorem dX10_sureBy_57 : decode cX10_sureBy 57 = .ok (.bipush 99, 2) := by decide +kernel
theorem dX10_sureBy_59 : decode cX10_sureBy 59 = .ok (.istore 6, 2) := by decide +kernel
theorem dX10_sureBy_61 : decode cX10_sureBy 61 = .ok (.iload 6, 2) := by decide +kernel
theorem dX10_sureBy_63 : decode cX10_sureBy 63 = .ok (.iload 4, 2) := by decide +kernel
theorem dX10_sureBy_65 : decode cX10_sureBy 65 = .ok (.if_icmp .ge 8, 3) := by decide +kernel
theorem dX10_sureBy_68 : decode cX10_sureBy 68 = .ok (.iload 6, 2) := by decide +kernel
theorem dX10_sureBy_70 : decode cX10_sureBy 70 = .ok (.goto 5, 3) := by decide +kernel
theorem dX10_sureBy_73 : decode cX10_sureBy 73 = .ok (.iload 4, 2) := by decide +kernel
theorem dX10_sureBy_75 : decode cX10_sureBy 75 = .ok (.istore 4, 2) := by decide +kernel
theorem dX10_sureBy_77 : decode cX10_sureBy 77 = .ok (.iinc 5 1, 3) := by decide +kernel
theorem dX10_sureBy_80 : decode cX10_sureBy 80 = .ok (.goto (-61), 3) := by decide +kernel
theorem dX10_sureBy_83 : decode cX10_sureBy 83 = .ok (.iconst 1, 1) := by decide +kernel
theorem dX10_sureBy_84 : decode cX10_sureBy 84 = .ok (.iload 4, 2) := by decide +kernel
theorem dX10_sureBy_86 : decode cX10_sureBy 86 = .ok (.iadd, 1) := by decide +kernel
theorem dX10_sureBy_87 : decode cX10_sureBy 87 = .ok (.aload_n 0, 1) := by decide +kernel
theorem dX10_sureBy_88 : decode cX10_sureBy 88 = .ok (.getfield 13, 3) := by decide +kernel
theorem dX10_sureBy_91 : decode cX10_sureBy 91 = .ok (.iload_n 2, 1) := by decide +kernel
theorem dX10_sureBy_92 : decode cX10_sureBy 92 = .ok (.iaload, 1) := by decide +kernel
theorem dX10_sureBy_93 : decode cX10_sureBy 93 = .ok (.iload_n 1, 1) := by decide +kernel
theorem dX10_sureBy_94 : decode cX10_sureBy 94 = .ok (.invokestatic 163, 3) := by decide +kernel
theorem dX10_sureBy_97 : decode cX10_sureBy 97 = .ok (.isub, 1) := by decide +kernel
theorem dX10_sureBy_98 : decode cX10_sureBy 98 = .ok (.ireturn, 1) := by decide +kernel
theorem dX10_remember_0 : decode cX10_remember 0 = .ok (.aload_n 0, 1) := by decide +kernel
theorem dX10_remember_1 : decode cX10_remember 1 = .ok (.getfield 130, 3) := by decide +kernel
theorem dX10_remember_4 : decode cX10_remember 4 = .ok (.bipush 20, 2) := by decide +kernel
theorem dX10_remember_6 : decode cX10_remember 6 = .ok (.if_icmp .ne 44, 3) := by decide +kernel
theorem dX10_remember_9 : decode cX10_remember 9 = .ok (.bipush 81, 2) := by decide +kernel
theorem dX10_remember_11 : decode cX10_remember 11 = .ok (.istore_n 1, 1) := by decide +kernel
theorem dX10_remember_12 : decode cX10_remember 12 = .ok (.iload_n 1, 1) := by decide +kernel
theorem dX10_remember_13 : decode cX10_remember 13 = .ok (.sipush 1620, 3) := by decide +kernel
theorem dX10_remember_16 : decode cX10_remember 16 = .ok (.if_icmp .ge 24, 3) := by decide +kernel
theorem dX10_remember_19 : decode cX10_remember 19 = .ok (.aload_n 0, 1) := by decide +kernel
theorem dX10_remember_20 : decode cX10_remember 20 = .ok (.getfield 33, 3) := by decide +kernel
theorem dX10_remember_23 : decode cX10_remember 23 = .ok (.iload_n 1, 1) := by decide +kernel
theorem dX10_remember_24 : decode cX10_remember 24 = .ok (.bipush 81, 2) := by decide +kernel
theorem dX10_remember_26 : decode cX10_remember 26 = .ok (.isub, 1) := by decide +kernel
theorem dX10_remember_27 : decode cX10_remember 27 = .ok (.aload_n 0, 1) := by decide +kernel
theorem dX10_remember_28 : decode cX10_remember 28 = .ok (.getfield 33, 3) := by decide +kernel
theorem dX10_remember_31 : decode cX10_remember 31 = .ok (.iload_n 1, 1) := by decide +kernel
theorem dX10_remember_32 : decode cX10_remember 32 = .ok (.iaload, 1) := by decide +kernel
theorem dX10_remember_33 : decode cX10_remember 33 = .ok (.iastore, 1) := by decide +kernel
theorem dX10_remember_34 : decode cX10_remember 34 = .ok (.iinc 1 1, 3) := by decide +kernel
theorem dX10_remember_37 : decode cX10_remember 37 = .ok (.goto (-25), 3) := by decide +kernel
theorem dX10_remember_40 : decode cX10_remember 40 = .ok (.aload_n 0, 1) := by decide +kernel
theorem dX10_remember_41 : decode cX10_remember 41 = .ok (.dup, 1) := by decide +kernel
theorem dX10_remember_42 : decode cX10_remember 42 = .ok (.getfield 130, 3) := by decide +kernel
theorem dX10_remember_45 : decode cX10_remember 45 = .ok (.iconst 1, 1) := by decide +kernel
theorem dX10_remember_46 : decode cX10_remember 46 = .ok (.isub, 1) := by decide +kernel
theorem dX10_remember_47 : decode cX10_remember 47 = .ok (.putfield 130, 3) := by decide +kernel
theorem dX10_remember_50 : decode cX10_remember 50 = .ok (.iconst 0, 1) := by decide +kernel
theorem dX10_remember_51 : decode cX10_remember 51 = .ok (.istore_n 1, 1) := by decide +kernel
theorem dX10_remember_52 : decode cX10_remember 52 = .ok (.iload_n 1, 1) := by decide +kernel
theorem dX10_remember_53 : decode cX10_remember 53 = .ok (.bipush 81, 2) := by decide +kernel
theorem dX10_remember_55 : decode cX10_remember 55 = .ok (.if_icmp .ge 29, 3) := by decide +kernel
theorem dX10_remember_58 : decode cX10_remember 58 = .ok (.aload_n 0, 1) := by decide +kernel
theorem dX10_remember_59 : decode cX10_remember 59 = .ok (.getfield 33, 3) := by decide +kernel
theorem dX10_remember_62 : decode cX10_remember 62 = .ok (.bipush 81, 2) := by decide +kernel
theorem dX10_remember_64 : decode cX10_remember 64 = .ok (.aload_n 0, 1) := by decide +kernel
theorem dX10_remember_65 : decode cX10_remember 65 = .ok (.getfield 130, 3) := by decide +kernel
theorem dX10_remember_68 : decode cX10_remember 68 = .ok (.imul, 1) := by decide +kernel
theorem dX10_remember_69 : decode cX10_remember 69 = .ok (.iload_n 1, 1) := by decide +kernel
theorem dX10_remember_70 : decode cX10_remember 70 = .ok (.iadd, 1) := by decide +kernel
theorem dX10_remember_71 : decode cX10_remember 71 = .ok (.aload_n 0, 1) := by decide +kernel
theorem dX10_remember_72 : decode cX10_remember 72 = .ok (.getfield 13, 3) := by decide +kernel
theorem dX10_remember_75 : decode cX10_remember 75 = .ok (.iload_n 1, 1) := by decide +kernel
theorem dX10_remember_76 : decode cX10_remember 76 = .ok (.iaload, 1) := by decide +kernel
theorem dX10_remember_77 : decode cX10_remember 77 = .ok (.iastore, 1) := by decide +kernel
theorem dX10_remember_78 : decode cX10_remember 78 = .ok (.iinc 1 1, 3) := by decide +kernel
theorem dX10_remember_81 : decode cX10_remember 81 = .ok (.goto (-29), 3) := by decide +kernel
theorem dX10_remember_84 : decode cX10_remember 84 = .ok (.aload_n 0, 1) := by decide +kernel
theorem dX10_remember_85 : decode cX10_remember 85 = .ok (.dup, 1) := by decide +kernel
theorem dX10_remember_86 : decode cX10_remember 86 = .ok (.getfield 130, 3) := by decide +kernel
theorem dX10_remember_89 : decode cX10_remember 89 = .ok (.iconst 1, 1) := by decide +kernel
theorem dX10_remember_90 : decode cX10_remember 90 = .ok (.iadd, 1) := by decide +kernel
theorem dX10_remember_91 : decode cX10_remember 91 = .ok (.putfield 130, 3) := by decide +kernel
theorem dX10_remember_94 : decode cX10_remember 94 = .ok (.return_, 1) := by decide +kernel
theorem dX10_pass_0 : decode cX10_pass 0 = .ok (.iconst 0, 1) := by decide +kernel
theorem dX10_pass_1 : decode cX10_pass 1 = .ok (.istore_n 1, 1) := by decide +kernel
theorem dX10_pass_2 : decode cX10_pass 2 = .ok (.iload_n 1, 1) := by decide +kernel
theorem dX10_pass_3 : decode cX10_pass 3 = .ok (.aload_n 0, 1) := by decide +kernel
theorem dX10_pass_4 : decode cX10_pass 4 = .ok (.getfield 63, 3) := by decide +kernel
theorem dX10_pass_7 : decode cX10_pass 7 = .ok (.if_icmp .ge 54, 3) := by decide +kernel
theorem dX10_pass_10 : decode cX10_pass 10 = .ok (.aload_n 0, 1) := by decide +kernel
theorem dX10_pass_11 : decode cX10_pass 11 = .ok (.getfield 13, 3) := by decide +kernel
theorem dX10_pass_14 : decode cX10_pass 14 = .ok (.bipush 80, 2) := by decide +kernel
theorem dX10_pass_16 : decode cX10_pass 16 = .ok (.iaload, 1) := by decide +kernel
theorem dX10_pass_17 : decode cX10_pass 17 = .ok (.aload_n 0, 1) := by decide +kernel
theorem dX10_pass_18 : decode cX10_pass 18 = .ok (.getfield 7, 3) := by decide +kernel
theorem dX10_pass_21 : decode cX10_pass 21 = .ok (.iload_n 1, 1) := by decide +kernel
theorem dX10_pass_22 : decode cX10_pass 22 = .ok (.iaload, 1) := by decide +kernel
theorem dX10_pass_23 : decode cX10_pass 23 = .ok (.imul, 1) := by decide +kernel
theorem dX10_pass_24 : decode cX10_pass 24 = .ok (.iload_n 1, 1) := by decide +kernel
theorem dX10_pass_25 : decode cX10_pass 25 = .ok (.iadd, 1) := by decide +kernel
theorem dX10_pass_26 : decode cX10_pass 26 = .ok (.bipush 8, 2) := by decide +kernel
theorem dX10_pass_28 : decode cX10_pass 28 = .ok (.irem, 1) := by decide +kernel
theorem dX10_pass_29 : decode cX10_pass 29 = .ok (.istore_n 2, 1) := by decide +kernel
theorem dX10_pass_30 : decode cX10_pass 30 = .ok (.aload_n 0, 1) := by decide +kernel
theorem dX10_pass_31 : decode cX10_pass 31 = .ok (.getfield 13, 3) := by decide +kernel
theorem dX10_pass_34 : decode cX10_pass 34 = .ok (.iload_n 1, 1) := by decide +kernel
theorem dX10_pass_35 : decode cX10_pass 35 = .ok (.dup2, 1) := by decide +kernel
theorem dX10_pass_36 : decode cX10_pass 36 = .ok (.iaload, 1) := by decide +kernel
theorem dX10_pass_37 : decode cX10_pass 37 = .ok (.aload_n 0, 1) := by decide +kernel
theorem dX10_pass_38 : decode cX10_pass 38 = .ok (.getfield 7, 3) := by decide +kernel
theorem dX10_pass_41 : decode cX10_pass 41 = .ok (.iload_n 1, 1) := by decide +kernel
theorem dX10_pass_42 : decode cX10_pass 42 = .ok (.iaload, 1) := by decide +kernel
theorem dX10_pass_43 : decode cX10_pass 43 = .ok (.ifCond .le 9, 3) := by decide +kernel
theorem dX10_pass_46 : decode cX10_pass 46 = .ok (.iconst 1, 1) := by decide +kernel
theorem dX10_pass_47 : decode cX10_pass 47 = .ok (.iload_n 2, 1) := by decide +kernel
theorem dX10_pass_48 : decode cX10_pass 48 = .ok (.ishl, 1) := by decide +kernel
theorem dX10_pass_49 : decode cX10_pass 49 = .ok (.goto 4, 3) := by decide +kernel
theorem dX10_pass_52 : decode cX10_pass 52 = .ok (.iconst 0, 1) := by decide +kernel
theorem dX10_pass_53 : decode cX10_pass 53 = .ok (.ixor, 1) := by decide +kernel
theorem dX10_pass_54 : decode cX10_pass 54 = .ok (.iastore, 1) := by decide +kernel
theorem dX10_pass_55 : decode cX10_pass 55 = .ok (.iinc 1 1, 3) := by decide +kernel
theorem dX10_pass_58 : decode cX10_pass 58 = .ok (.goto (-56), 3) := by decide +kernel
theorem dX10_pass_61 : decode cX10_pass 61 = .ok (.aload_n 0, 1) := by decide +kernel
theorem dX10_pass_62 : decode cX10_pass 62 = .ok (.getfield 13, 3) := by decide +kernel
theorem dX10_pass_65 : decode cX10_pass 65 = .ok (.bipush 80, 2) := by decide +kernel
theorem dX10_pass_67 : decode cX10_pass 67 = .ok (.dup2, 1) := by decide +kernel
theorem dX10_pass_68 : decode cX10_pass 68 = .ok (.iaload, 1) := by decide +kernel
theorem dX10_pass_69 : decode cX10_pass 69 = .ok (.iconst 1, 1) := by decide +kernel
theorem dX10_pass_70 : decode cX10_pass 70 = .ok (.iadd, 1) := by decide +kernel
theorem dX10_pass_71 : decode cX10_pass 71 = .ok (.iastore, 1) := by decide +kernel
theorem dX10_pass_72 : decode cX10_pass 72 = .ok (.return_, 1) := by decide +kernel
theorem dX10_yearsRefused_0 : decode cX10_yearsRefused 0 = .ok (.iload_n 1, 1) := by decide +kernel
theorem dX10_yearsRefused_1 : decode cX10_yearsRefused 1 = .ok (.i2l, 1) := by decide +kernel
theorem dX10_yearsRefused_2 : decode cX10_yearsRefused 2 = .ok (.lconst 1, 1) := by decide +kernel
theorem dX10_yearsRefused_3 : decode cX10_yearsRefused 3 = .ok (.ldc2_w 169, 3) := by decide +kernel
theorem dX10_yearsRefused_6 : decode cX10_yearsRefused 6 = .ok (.invokestatic 66, 3) := by decide +kernel
theorem dX10_yearsRefused_9 : decode cX10_yearsRefused 9 = .ok (.ifCond .ne 6, 3) := by decide +kernel
theorem dX10_yearsRefused_12 : decode cX10_yearsRefused 12 = .ok (.ldc 76, 2) := by decide +kernel
theorem dX10_yearsRefused_14 : decode cX10_yearsRefused 14 = .ok (.ireturn, 1) := by decide +kernel
theorem dX10_yearsRefused_15 : decode cX10_yearsRefused 15 = .ok (.aload_n 0, 1) := by decide +kernel
theorem dX10_yearsRefused_16 : decode cX10_yearsRefused 16 = .ok (.getfield 63, 3) := by decide +kernel
theorem dX10_yearsRefused_19 : decode cX10_yearsRefused 19 = .ok (.ifCond .ne 8, 3) := by decide +kernel
theorem dX10_yearsRefused_22 : decode cX10_yearsRefused 22 = .ok (.ldc 171, 2) := by decide +kernel
theorem dX10_yearsRefused_24 : decode cX10_yearsRefused 24 = .ok (.goto 22, 3) := by decide +kernel
theorem dX10_yearsRefused_27 : decode cX10_yearsRefused 27 = .ok (.aload_n 0, 1) := by decide +kernel
theorem dX10_yearsRefused_28 : decode cX10_yearsRefused 28 = .ok (.getfield 13, 3) := by decide +kernel
theorem dX10_yearsRefused_31 : decode cX10_yearsRefused 31 = .ok (.bipush 80, 2) := by decide +kernel
theorem dX10_yearsRefused_33 : decode cX10_yearsRefused 33 = .ok (.iaload, 1) := by decide +kernel
theorem dX10_yearsRefused_34 : decode cX10_yearsRefused 34 = .ok (.sipush 9000, 3) := by decide +kernel
theorem dX10_yearsRefused_37 : decode cX10_yearsRefused 37 = .ok (.if_icmp .le 8, 3) := by decide +kernel
theorem dX10_yearsRefused_40 : decode cX10_yearsRefused 40 = .ok (.ldc 80, 2) := by decide +kernel
theorem dX10_yearsRefused_42 : decode cX10_yearsRefused 42 = .ok (.goto 4, 3) := by decide +kernel
theorem dX10_yearsRefused_45 : decode cX10_yearsRefused 45 = .ok (.iconst 0, 1) := by decide +kernel
theorem dX10_yearsRefused_46 : decode cX10_yearsRefused 46 = .ok (.ireturn, 1) := by decide +kernel
theorem dX10_year_0 : decode cX10_year 0 = .ok (.aload_n 0, 1) := by decide +kernel
theorem dX10_year_1 : decode cX10_year 1 = .ok (.iload_n 1, 1) := by decide +kernel
theorem dX10_year_2 : decode cX10_year 2 = .ok (.invokevirtual 172, 3) := by decide +kernel
theorem dX10_year_5 : decode cX10_year 5 = .ok (.istore_n 2, 1) := by decide +kernel
theorem dX10_year_6 : decode cX10_year 6 = .ok (.iload_n 2, 1) := by decide +kernel
theorem dX10_year_7 : decode cX10_year 7 = .ok (.ifCond .eq 5, 3) := by decide +kernel
theorem dX10_year_10 : decode cX10_year 10 = .ok (.iload_n 2, 1) := by decide +kernel
theorem dX10_year_11 : decode cX10_year 11 = .ok (.ireturn, 1) := by decide +kernel
theorem dX10_year_12 : decode cX10_year 12 = .ok (.aload_n 0, 1) := by decide +kernel
theorem dX10_year_13 : decode cX10_year 13 = .ok (.invokevirtual 175, 3) := by decide +kernel
theorem dX10_year_16 : decode cX10_year 16 = .ok (.iconst 0, 1) := by decide +kernel
theorem dX10_year_17 : decode cX10_year 17 = .ok (.istore_n 3, 1) := by decide +kernel
theorem dX10_year_18 : decode cX10_year 18 = .ok (.iload_n 3, 1) := by decide +kernel
theorem dX10_year_19 : decode cX10_year 19 = .ok (.iload_n 1, 1) := by decide +kernel
theorem dX10_year_20 : decode cX10_year 20 = .ok (.if_icmp .ge 13, 3) := by decide +kernel
theorem dX10_year_23 : decode cX10_year 23 = .ok (.aload_n 0, 1) := by decide +kernel
theorem dX10_year_24 : decode cX10_year 24 = .ok (.invokevirtual 178, 3) := by decide +kernel
theorem dX10_year_27 : decode cX10_year 27 = .ok (.iinc 3 1, 3) := by decide +kernel
theorem dX10_year_30 : decode cX10_year 30 = .ok (.goto (-12), 3) := by decide +kernel
theorem dX10_year_33 : decode cX10_year 33 = .ok (.aload_n 0, 1) := by decide +kernel
theorem dX10_year_34 : decode cX10_year 34 = .ok (.getfield 13, 3) := by decide +kernel
theorem dX10_year_37 : decode cX10_year 37 = .ok (.bipush 80, 2) := by decide +kernel
theorem dX10_year_39 : decode cX10_year 39 = .ok (.iaload, 1) := by decide +kernel
theorem dX10_year_40 : decode cX10_year 40 = .ok (.ireturn, 1) := by decide +kernel
theorem dX10_meet_0 : decode cX10_meet 0 = .ok (.aload_n 0, 1) := by decide +kernel
theorem dX10_meet_1 : decode cX10_meet 1 = .ok (.iload_n 1, 1) := by decide +kernel
theorem dX10_meet_2 : decode cX10_meet 2 = .ok (.iload_n 2, 1) := by decide +kernel
theorem dX10_meet_3 : decode cX10_meet 3 = .ok (.invokevirtual 156, 3) := by decide +kernel
theorem dX10_meet_6 : decode cX10_meet 6 = .ok (.ifCond .ne 6, 3) := by decide +kernel
theorem dX10_meet_9 : decode cX10_meet 9 = .ok (.ldc 152, 2) := by decide +kernel
theorem dX10_meet_11 : decode cX10_meet 11 = .ok (.ireturn, 1) := by decide +kernel
theorem dX10_meet_12 : decode cX10_meet 12 = .ok (.aload_n 0, 1) := by decide +kernel
theorem dX10_meet_13 : decode cX10_meet 13 = .ok (.invokevirtual 175, 3) := by decide +kernel
theorem dX10_meet_16 : decode cX10_meet 16 = .ok (.aload_n 0, 1) := by decide +kernel
theorem dX10_meet_17 : decode cX10_meet 17 = .ok (.iload_n 1, 1) := by decide +kernel
theorem dX10_meet_18 : decode cX10_meet 18 = .ok (.iload_n 2, 1) := by decide +kernel
theorem dX10_meet_19 : decode cX10_meet 19 = .ok (.invokevirtual 133, 3) := by decide +kernel
theorem dX10_meet_22 : decode cX10_meet 22 = .ok (.istore_n 3, 1) := by decide +kernel
theorem dX10_meet_23 : decode cX10_meet 23 = .ok (.aload_n 0, 1) := by decide +kernel
theorem dX10_meet_24 : decode cX10_meet 24 = .ok (.getfield 13, 3) := by decide +kernel
theorem dX10_meet_27 : decode cX10_meet 27 = .ok (.bipush 16, 2) := by decide +kernel
theorem dX10_meet_29 : decode cX10_meet 29 = .ok (.bipush 8, 2) := by decide +kernel
theorem dX10_meet_31 : decode cX10_meet 31 = .ok (.iload_n 1, 1) := by decide +kernel
theorem dX10_meet_32 : decode cX10_meet 32 = .ok (.imul, 1) := by decide +kernel
theorem dX10_meet_33 : decode cX10_meet 33 = .ok (.iadd, 1) := by decide +kernel
theorem dX10_meet_34 : decode cX10_meet 34 = .ok (.iload_n 2, 1) := by decide +kernel
theorem dX10_meet_35 : decode cX10_meet 35 = .ok (.iadd, 1) := by decide +kernel
theorem dX10_meet_36 : decode cX10_meet 36 = .ok (.aload_n 0, 1) := by decide +kernel
theorem dX10_meet_37 : decode cX10_meet 37 = .ok (.getfield 13, 3) := by decide +kernel
theorem dX10_meet_40 : decode cX10_meet 40 = .ok (.iload_n 2, 1) := by decide +kernel
theorem dX10_meet_41 : decode cX10_meet 41 = .ok (.iaload, 1) := by decide +kernel
theorem dX10_meet_42 : decode cX10_meet 42 = .ok (.iastore, 1) := by decide +kernel
theorem dX10_meet_43 : decode cX10_meet 43 = .ok (.iload_n 3, 1) := by decide +kernel
theorem dX10_meet_44 : decode cX10_meet 44 = .ok (.ifCond .ge 7, 3) := by decide +kernel
theorem dX10_meet_47 : decode cX10_meet 47 = .ok (.iconst (-1), 1) := by decide +kernel
theorem dX10_meet_48 : decode cX10_meet 48 = .ok (.goto 13, 3) := by decide +kernel
theorem dX10_meet_51 : decode cX10_meet 51 = .ok (.iload_n 3, 1) := by decide +kernel
theorem dX10_meet_52 : decode cX10_meet 52 = .ok (.aload_n 0, 1) := by decide +kernel
theorem dX10_meet_53 : decode cX10_meet 53 = .ok (.getfield 13, 3) := by decide +kernel
theorem dX10_meet_56 : decode cX10_meet 56 = .ok (.iload_n 2, 1) := by decide +kernel
theorem dX10_meet_57 : decode cX10_meet 57 = .ok (.iaload, 1) := by decide +kernel
theorem dX10_meet_58 : decode cX10_meet 58 = .ok (.invokestatic 163, 3) := by decide +kernel
theorem dX10_meet_61 : decode cX10_meet 61 = .ok (.ireturn, 1) := by decide +kernel
theorem dX10_forget_0 : decode cX10_forget 0 = .ok (.aload_n 0, 1) := by decide +kernel
theorem dX10_forget_1 : decode cX10_forget 1 = .ok (.iload_n 1, 1) := by decide +kernel
theorem dX10_forget_2 : decode cX10_forget 2 = .ok (.iload_n 2, 1) := by decide +kernel
theorem dX10_forget_3 : decode cX10_forget 3 = .ok (.invokevirtual 156, 3) := by decide +kernel
theorem dX10_forget_6 : decode cX10_forget 6 = .ok (.ifCond .ne 6, 3) := by decide +kernel
theorem dX10_forget_9 : decode cX10_forget 9 = .ok (.ldc 152, 2) := by decide +kernel
theorem dX10_forget_11 : decode cX10_forget 11 = .ok (.ireturn, 1) := by decide +kernel
theorem dX10_forget_12 : decode cX10_forget 12 = .ok (.aload_n 0, 1) := by decide +kernel
theorem dX10_forget_13 : decode cX10_forget 13 = .ok (.iload_n 1, 1) := by decide +kernel
theorem dX10_forget_14 : decode cX10_forget 14 = .ok (.iload_n 2, 1) := by decide +kernel
theorem dX10_forget_15 : decode cX10_forget 15 = .ok (.invokevirtual 133, 3) := by decide +kernel
theorem dX10_forget_18 : decode cX10_forget 18 = .ok (.istore_n 3, 1) := by decide +kernel
theorem dX10_forget_19 : decode cX10_forget 19 = .ok (.iload_n 3, 1) := by decide +kernel
theorem dX10_forget_20 : decode cX10_forget 20 = .ok (.ifCond .ge 6, 3) := by decide +kernel
theorem dX10_forget_23 : decode cX10_forget 23 = .ok (.ldc 171, 2) := by decide +kernel
theorem dX10_forget_25 : decode cX10_forget 25 = .ok (.ireturn, 1) := by decide +kernel
theorem dX10_forget_26 : decode cX10_forget 26 = .ok (.aload_n 0, 1) := by decide +kernel
theorem dX10_forget_27 : decode cX10_forget 27 = .ok (.invokevirtual 175, 3) := by decide +kernel
theorem dX10_forget_30 : decode cX10_forget 30 = .ok (.aload_n 0, 1) := by decide +kernel
theorem dX10_forget_31 : decode cX10_forget 31 = .ok (.getfield 13, 3) := by decide +kernel
theorem dX10_forget_34 : decode cX10_forget 34 = .ok (.bipush 16, 2) := by decide +kernel
theorem dX10_forget_36 : decode cX10_forget 36 = .ok (.bipush 8, 2) := by decide +kernel
theorem dX10_forget_38 : decode cX10_forget 38 = .ok (.iload_n 1, 1) := by decide +kernel
theorem dX10_forget_39 : decode cX10_forget 39 = .ok (.imul, 1) := by decide +kernel
theorem dX10_forget_40 : decode cX10_forget 40 = .ok (.iadd, 1) := by decide +kernel
theorem dX10_forget_41 : decode cX10_forget 41 = .ok (.iload_n 2, 1) := by decide +kernel
theorem dX10_forget_42 : decode cX10_forget 42 = .ok (.iadd, 1) := by decide +kernel
theorem dX10_forget_43 : decode cX10_forget 43 = .ok (.iconst (-1), 1) := by decide +kernel
theorem dX10_forget_44 : decode cX10_forget 44 = .ok (.iastore, 1) := by decide +kernel
theorem dX10_forget_45 : decode cX10_forget 45 = .ok (.iload_n 3, 1) := by decide +kernel
theorem dX10_forget_46 : decode cX10_forget 46 = .ok (.ireturn, 1) := by decide +kernel
theorem dX10_rowRefused_0 : decode cX10_rowRefused 0 = .ok (.aload_n 0, 1) := by decide +kernel
theorem dX10_rowRefused_1 : decode cX10_rowRefused 1 = .ok (.iload_n 1, 1) := by decide +kernel
theorem dX10_rowRefused_2 : decode cX10_rowRefused 2 = .ok (.iload_n 2, 1) := by decide +kernel
theorem dX10_rowRefused_3 : decode cX10_rowRefused 3 = .ok (.invokevirtual 156, 3) := by decide +kernel
theorem dX10_rowRefused_6 : decode cX10_rowRefused 6 = .ok (.ifCond .eq 19, 3) := by decide +kernel
theorem dX10_rowRefused_9 : decode cX10_rowRefused 9 = .ok (.aload_n 0, 1) := by decide +kernel
theorem dX10_rowRefused_10 : decode cX10_rowRefused 10 = .ok (.iload_n 3, 1) := by decide +kernel
theorem dX10_rowRefused_11 : decode cX10_rowRefused 11 = .ok (.invokevirtual 181, 3) := by decide +kernel
theorem dX10_rowRefused_14 : decode cX10_rowRefused 14 = .ok (.ifCond .eq 11, 3) := by decide +kernel
theorem dX10_rowRefused_17 : decode cX10_rowRefused 17 = .ok (.iload_n 3, 1) := by decide +kernel
theorem dX10_rowRefused_18 : decode cX10_rowRefused 18 = .ok (.iload_n 1, 1) := by decide +kernel
theorem dX10_rowRefused_19 : decode cX10_rowRefused 19 = .ok (.invokestatic 160, 3) := by decide +kernel
theorem dX10_rowRefused_22 : decode cX10_rowRefused 22 = .ok (.ifCond .eq 6, 3) := by decide +kernel
theorem dX10_rowRefused_25 : decode cX10_rowRefused 25 = .ok (.ldc 152, 2) := by decide +kernel
theorem dX10_rowRefused_27 : decode cX10_rowRefused 27 = .ok (.ireturn, 1) := by decide +kernel
theorem dX10_rowRefused_28 : decode cX10_rowRefused 28 = .ok (.iload_n 3, 1) := by decide +kernel
theorem dX10_rowRefused_29 : decode cX10_rowRefused 29 = .ok (.invokestatic 140, 3) := by decide +kernel
theorem dX10_rowRefused_32 : decode cX10_rowRefused 32 = .ok (.iconst 2, 1) := by decide +kernel
theorem dX10_rowRefused_33 : decode cX10_rowRefused 33 = .ok (.if_icmp .ge 8, 3) := by decide +kernel
theorem dX10_rowRefused_36 : decode cX10_rowRefused 36 = .ok (.ldc 76, 2) := by decide +kernel
theorem dX10_rowRefused_38 : decode cX10_rowRefused 38 = .ok (.goto 4, 3) := by decide +kernel
theorem dX10_rowRefused_41 : decode cX10_rowRefused 41 = .ok (.iconst 0, 1) := by decide +kernel
theorem dX10_rowRefused_42 : decode cX10_rowRefused 42 = .ok (.ireturn, 1) := by decide +kernel
theorem dX10_unknownTo_0 : decode cX10_unknownTo 0 = .ok (.aload_n 0, 1) := by decide +kernel
theorem dX10_unknownTo_1 : decode cX10_unknownTo 1 = .ok (.iload_n 1, 1) := by decide +kernel
theorem dX10_unknownTo_2 : decode cX10_unknownTo 2 = .ok (.iload_n 2, 1) := by decide +kernel
theorem dX10_unknownTo_3 : decode cX10_unknownTo 3 = .ok (.invokevirtual 133, 3) := by decide +kernel
theorem dX10_unknownTo_6 : decode cX10_unknownTo 6 = .ok (.ifCond .ge 8, 3) := by decide +kernel
theorem dX10_unknownTo_9 : decode cX10_unknownTo 9 = .ok (.ldc 171, 2) := by decide +kernel
theorem dX10_unknownTo_11 : decode cX10_unknownTo 11 = .ok (.goto 4, 3) := by decide +kernel
theorem dX10_unknownTo_14 : decode cX10_unknownTo 14 = .ok (.iconst 0, 1) := by decide +kernel
theorem dX10_unknownTo_15 : decode cX10_unknownTo 15 = .ok (.ireturn, 1) := by decide +kernel
theorem dX10_parade_0 : decode cX10_parade 0 = .ok (.aload_n 0, 1) := by decide +kernel
theorem dX10_parade_1 : decode cX10_parade 1 = .ok (.iload_n 1, 1) := by decide +kernel
theorem dX10_parade_2 : decode cX10_parade 2 = .ok (.iload_n 2, 1) := by decide +kernel
theorem dX10_parade_3 : decode cX10_parade 3 = .ok (.iload_n 3, 1) := by decide +kernel
theorem dX10_parade_4 : decode cX10_parade 4 = .ok (.invokevirtual 184, 3) := by decide +kernel
theorem dX10_parade_7 : decode cX10_parade 7 = .ok (.istore 4, 2) := by decide +kernel
theorem dX10_parade_9 : decode cX10_parade 9 = .ok (.iload 4, 2) := by decide +kernel
theorem dX10_parade_11 : decode cX10_parade 11 = .ok (.ifCond .eq 8, 3) := by decide +kernel
theorem dX10_parade_14 : decode cX10_parade 14 = .ok (.iload 4, 2) := by decide +kernel
theorem dX10_parade_16 : decode cX10_parade 16 = .ok (.goto 9, 3) := by decide +kernel
theorem dX10_parade_19 : decode cX10_parade 19 = .ok (.aload_n 0, 1) := by decide +kernel
theorem dX10_parade_20 : decode cX10_parade 20 = .ok (.iload_n 1, 1) := by decide +kernel
theorem dX10_parade_21 : decode cX10_parade 21 = .ok (.iload_n 2, 1) := by decide +kernel
theorem dX10_parade_22 : decode cX10_parade 22 = .ok (.invokevirtual 188, 3) := by decide +kernel
theorem dX10_parade_25 : decode cX10_parade 25 = .ok (.istore 4, 2) := by decide +kernel
theorem dX10_parade_27 : decode cX10_parade 27 = .ok (.iload 4, 2) := by decide +kernel
theorem dX10_parade_29 : decode cX10_parade 29 = .ok (.ifCond .eq 6, 3) := by decide +kernel
theorem dX10_parade_32 : decode cX10_parade 32 = .ok (.iload 4, 2) := by decide +kernel
theorem dX10_parade_34 : decode cX10_parade 34 = .ok (.ireturn, 1) := by decide +kernel
theorem dX10_parade_35 : decode cX10_parade 35 = .ok (.aload_n 0, 1) := by decide +kernel
theorem dX10_parade_36 : decode cX10_parade 36 = .ok (.invokevirtual 175, 3) := by decide +kernel
theorem dX10_parade_39 : decode cX10_parade 39 = .ok (.aload_n 0, 1) := by decide +kernel
theorem dX10_parade_40 : decode cX10_parade 40 = .ok (.aload_n 0, 1) := by decide +kernel
theorem dX10_parade_41 : decode cX10_parade 41 = .ok (.iload_n 1, 1) := by decide +kernel
theorem dX10_parade_42 : decode cX10_parade 42 = .ok (.iload_n 2, 1) := by decide +kernel
theorem dX10_parade_43 : decode cX10_parade 43 = .ok (.invokevirtual 133, 3) := by decide +kernel
theorem dX10_parade_46 : decode cX10_parade 46 = .ok (.iload_n 3, 1) := by decide +kernel
theorem dX10_parade_47 : decode cX10_parade 47 = .ok (.invokevirtual 166, 3) := by decide +kernel
theorem dX10_parade_50 : decode cX10_parade 50 = .ok (.istore 5, 2) := by decide +kernel
theorem dX10_parade_52 : decode cX10_parade 52 = .ok (.aload_n 0, 1) := by decide +kernel
theorem dX10_parade_53 : decode cX10_parade 53 = .ok (.getfield 13, 3) := by decide +kernel
theorem dX10_parade_56 : decode cX10_parade 56 = .ok (.bipush 8, 2) := by decide +kernel
theorem dX10_parade_58 : decode cX10_parade 58 = .ok (.iload 5, 2) := by decide +kernel
theorem dX10_parade_60 : decode cX10_parade 60 = .ok (.iadd, 1) := by decide +kernel
theorem dX10_parade_61 : decode cX10_parade 61 = .ok (.iload_n 2, 1) := by decide +kernel
theorem dX10_parade_62 : decode cX10_parade 62 = .ok (.iastore, 1) := by decide +kernel
theorem dX10_parade_63 : decode cX10_parade 63 = .ok (.iload 5, 2) := by decide +kernel
theorem dX10_parade_65 : decode cX10_parade 65 = .ok (.ireturn, 1) := by decide +kernel
theorem dX10_mark_0 : decode cX10_mark 0 = .ok (.aload_n 0, 1) := by decide +kernel
theorem dX10_mark_1 : decode cX10_mark 1 = .ok (.iload_n 1, 1) := by decide +kernel
theorem dX10_mark_2 : decode cX10_mark 2 = .ok (.invokevirtual 70, 3) := by decide +kernel
theorem dX10_mark_5 : decode cX10_mark 5 = .ok (.ifCond .ne 6, 3) := by decide +kernel
theorem dX10_mark_8 : decode cX10_mark 8 = .ok (.ldc 152, 2) := by decide +kernel
theorem dX10_mark_10 : decode cX10_mark 10 = .ok (.ireturn, 1) := by decide +kernel
theorem dX10_mark_11 : decode cX10_mark 11 = .ok (.iload_n 2, 1) := by decide +kernel
theorem dX10_mark_12 : decode cX10_mark 12 = .ok (.i2l, 1) := by decide +kernel
theorem dX10_mark_13 : decode cX10_mark 13 = .ok (.lconst 0, 1) := by decide +kernel
theorem dX10_mark_14 : decode cX10_mark 14 = .ok (.ldc2_w 191, 3) := by decide +kernel
theorem dX10_mark_17 : decode cX10_mark 17 = .ok (.invokestatic 66, 3) := by decide +kernel
theorem dX10_mark_20 : decode cX10_mark 20 = .ok (.ifCond .ne 6, 3) := by decide +kernel
theorem dX10_mark_23 : decode cX10_mark 23 = .ok (.ldc 76, 2) := by decide +kernel
theorem dX10_mark_25 : decode cX10_mark 25 = .ok (.ireturn, 1) := by decide +kernel
theorem dX10_mark_26 : decode cX10_mark 26 = .ok (.aload_n 0, 1) := by decide +kernel
theorem dX10_mark_27 : decode cX10_mark 27 = .ok (.invokevirtual 175, 3) := by decide +kernel
theorem dX10_mark_30 : decode cX10_mark 30 = .ok (.aload_n 0, 1) := by decide +kernel
theorem dX10_mark_31 : decode cX10_mark 31 = .ok (.getfield 13, 3) := by decide +kernel
theorem dX10_mark_34 : decode cX10_mark 34 = .ok (.iload_n 1, 1) := by decide +kernel
theorem dX10_mark_35 : decode cX10_mark 35 = .ok (.dup2, 1) := by decide +kernel
theorem dX10_mark_36 : decode cX10_mark 36 = .ok (.iaload, 1) := by decide +kernel
theorem dX10_mark_37 : decode cX10_mark 37 = .ok (.iconst 1, 1) := by decide +kernel
theorem dX10_mark_38 : decode cX10_mark 38 = .ok (.iload_n 2, 1) := by decide +kernel
theorem dX10_mark_39 : decode cX10_mark 39 = .ok (.ishl, 1) := by decide +kernel
theorem dX10_mark_40 : decode cX10_mark 40 = .ok (.ixor, 1) := by decide +kernel
theorem dX10_mark_41 : decode cX10_mark 41 = .ok (.iastore, 1) := by decide +kernel
theorem dX10_mark_42 : decode cX10_mark 42 = .ok (.aload_n 0, 1) := by decide +kernel
theorem dX10_mark_43 : decode cX10_mark 43 = .ok (.getfield 13, 3) := by decide +kernel
theorem dX10_mark_46 : decode cX10_mark 46 = .ok (.iload_n 1, 1) := by decide +kernel
theorem dX10_mark_47 : decode cX10_mark 47 = .ok (.iaload, 1) := by decide +kernel
theorem dX10_mark_48 : decode cX10_mark 48 = .ok (.ireturn, 1) := by decide +kernel
theorem dX10_draw_0 : decode cX10_draw 0 = .ok (.aload_n 0, 1) := by decide +kernel
theorem dX10_draw_1 : decode cX10_draw 1 = .ok (.aload_n 0, 1) := by decide +kernel
theorem dX10_draw_2 : decode cX10_draw 2 = .ok (.getfield 193, 3) := by decide +kernel
theorem dX10_draw_5 : decode cX10_draw 5 = .ok (.i2l, 1) := by decide +kernel
theorem dX10_draw_6 : decode cX10_draw 6 = .ok (.ldc2_w 196, 3) := by decide +kernel
theorem dX10_draw_9 : decode cX10_draw 9 = .ok (.lmul, 1) := by decide +kernel
theorem dX10_draw_10 : decode cX10_draw 10 = .ok (.ldc2_w 198, 3) := by decide +kernel
theorem dX10_draw_13 : decode cX10_draw 13 = .ok (.ladd, 1) := by decide +kernel
theorem dX10_draw_14 : decode cX10_draw 14 = .ok (.ldc2_w 200, 3) := by decide +kernel
theorem dX10_draw_17 : decode cX10_draw 17 = .ok (.lrem, 1) := by decide +kernel
theorem dX10_draw_18 : decode cX10_draw 18 = .ok (.l2i, 1) := by decide +kernel
theorem dX10_draw_19 : decode cX10_draw 19 = .ok (.putfield 193, 3) := by decide +kernel
theorem dX10_draw_22 : decode cX10_draw 22 = .ok (.aload_n 0, 1) := by decide +kernel
theorem dX10_draw_23 : decode cX10_draw 23 = .ok (.getfield 193, 3) := by decide +kernel
theorem dX10_draw_26 : decode cX10_draw 26 = .ok (.ldc 202, 2) := by decide +kernel
theorem dX10_draw_28 : decode cX10_draw 28 = .ok (.idiv, 1) := by decide +kernel
theorem dX10_draw_29 : decode cX10_draw 29 = .ok (.iload_n 1, 1) := by decide +kernel
theorem dX10_draw_30 : decode cX10_draw 30 = .ok (.irem, 1) := by decide +kernel
theorem dX10_draw_31 : decode cX10_draw 31 = .ok (.ireturn, 1) := by decide +kernel
theorem dX10_drift_0 : decode cX10_drift 0 = .ok (.aload_n 0, 1) := by decide +kernel
theorem dX10_drift_1 : decode cX10_drift 1 = .ok (.iload_n 1, 1) := by decide +kernel
theorem dX10_drift_2 : decode cX10_drift 2 = .ok (.invokevirtual 172, 3) := by decide +kernel
theorem dX10_drift_5 : decode cX10_drift 5 = .ok (.istore_n 2, 1) := by decide +kernel
theorem dX10_drift_6 : decode cX10_drift 6 = .ok (.iload_n 2, 1) := by decide +kernel
theorem dX10_drift_7 : decode cX10_drift 7 = .ok (.ifCond .eq 5, 3) := by decide +kernel
theorem dX10_drift_10 : decode cX10_drift 10 = .ok (.iload_n 2, 1) := by decide +kernel
theorem dX10_drift_11 : decode cX10_drift 11 = .ok (.ireturn, 1) := by decide +kernel
theorem dX10_drift_12 : decode cX10_drift 12 = .ok (.aload_n 0, 1) := by decide +kernel
theorem dX10_drift_13 : decode cX10_drift 13 = .ok (.invokevirtual 175, 3) := by decide +kernel
theorem dX10_drift_16 : decode cX10_drift 16 = .ok (.iconst 0, 1) := by decide +kernel
theorem dX10_drift_17 : decode cX10_drift 17 = .ok (.istore_n 3, 1) := by decide +kernel
theorem dX10_drift_18 : decode cX10_drift 18 = .ok (.iload_n 3, 1) := by decide +kernel
theorem dX10_drift_19 : decode cX10_drift 19 = .ok (.iload_n 1, 1) := by decide +kernel
theorem dX10_drift_20 : decode cX10_drift 20 = .ok (.if_icmp .ge 67, 3) := by decide +kernel
theorem dX10_drift_23 : decode cX10_drift 23 = .ok (.aload_n 0, 1) := by decide +kernel
theorem dX10_drift_24 : decode cX10_drift 24 = .ok (.aload_n 0, 1) := by decide +kernel
theorem dX10_drift_25 : decode cX10_drift 25 = .ok (.getfield 63, 3) := by decide +kernel
theorem dX10_drift_28 : decode cX10_drift 28 = .ok (.invokevirtual 203, 3) := by decide +kernel
theorem dX10_drift_31 : decode cX10_drift 31 = .ok (.istore 4, 2) := by decide +kernel
theorem dX10_drift_33 : decode cX10_drift 33 = .ok (.aload_n 0, 1) := by decide +kernel
theorem dX10_drift_34 : decode cX10_drift 34 = .ok (.aload_n 0, 1) := by decide +kernel
theorem dX10_drift_35 : decode cX10_drift 35 = .ok (.getfield 63, 3) := by decide +kernel
theorem dX10_drift_38 : decode cX10_drift 38 = .ok (.invokevirtual 203, 3) := by decide +kernel
theorem dX10_drift_41 : decode cX10_drift 41 = .ok (.istore 5, 2) := by decide +kernel
theorem dX10_drift_43 : decode cX10_drift 43 = .ok (.aload_n 0, 1) := by decide +kernel
theorem dX10_drift_44 : decode cX10_drift 44 = .ok (.getfield 13, 3) := by decide +kernel
theorem dX10_drift_47 : decode cX10_drift 47 = .ok (.bipush 16, 2) := by decide +kernel
theorem dX10_drift_49 : decode cX10_drift 49 = .ok (.bipush 8, 2) := by decide +kernel
theorem dX10_drift_51 : decode cX10_drift 51 = .ok (.iload 4, 2) := by decide +kernel
theorem dX10_drift_53 : decode cX10_drift 53 = .ok (.imul, 1) := by decide +kernel
theorem dX10_drift_54 : decode cX10_drift 54 = .ok (.iadd, 1) := by decide +kernel
theorem dX10_drift_55 : decode cX10_drift 55 = .ok (.iload 5, 2) := by decide +kernel
theorem dX10_drift_57 : decode cX10_drift 57 = .ok (.iadd, 1) := by decide +kernel
theorem dX10_drift_58 : decode cX10_drift 58 = .ok (.iload 4, 2) := by decide +kernel
theorem dX10_drift_60 : decode cX10_drift 60 = .ok (.iload 5, 2) := by decide +kernel
theorem dX10_drift_62 : decode cX10_drift 62 = .ok (.if_icmp .ne 7, 3) := by decide +kernel
theorem dX10_drift_65 : decode cX10_drift 65 = .ok (.iconst (-1), 1) := by decide +kernel
theorem dX10_drift_66 : decode cX10_drift 66 = .ok (.goto 10, 3) := by decide +kernel
theorem dX10_drift_69 : decode cX10_drift 69 = .ok (.aload_n 0, 1) := by decide +kernel
theorem dX10_drift_70 : decode cX10_drift 70 = .ok (.getfield 13, 3) := by decide +kernel
theorem dX10_drift_73 : decode cX10_drift 73 = .ok (.iload 5, 2) := by decide +kernel
theorem dX10_drift_75 : decode cX10_drift 75 = .ok (.iaload, 1) := by decide +kernel
theorem dX10_drift_76 : decode cX10_drift 76 = .ok (.iastore, 1) := by decide +kernel
theorem dX10_drift_77 : decode cX10_drift 77 = .ok (.aload_n 0, 1) := by decide +kernel
theorem dX10_drift_78 : decode cX10_drift 78 = .ok (.invokevirtual 178, 3) := by decide +kernel
theorem dX10_drift_81 : decode cX10_drift 81 = .ok (.iinc 3 1, 3) := by decide +kernel
theorem dX10_drift_84 : decode cX10_drift 84 = .ok (.goto (-66), 3) := by decide +kernel
theorem dX10_drift_87 : decode cX10_drift 87 = .ok (.aload_n 0, 1) := by decide +kernel
theorem dX10_drift_88 : decode cX10_drift 88 = .ok (.getfield 13, 3) := by decide +kernel
theorem dX10_drift_91 : decode cX10_drift 91 = .ok (.bipush 80, 2) := by decide +kernel
theorem dX10_drift_93 : decode cX10_drift 93 = .ok (.iaload, 1) := by decide +kernel
theorem dX10_drift_94 : decode cX10_drift 94 = .ok (.ireturn, 1) := by decide +kernel
theorem dX10_undo_0 : decode cX10_undo 0 = .ok (.aload_n 0, 1) := by decide +kernel
theorem dX10_undo_1 : decode cX10_undo 1 = .ok (.getfield 130, 3) := by decide +kernel
theorem dX10_undo_4 : decode cX10_undo 4 = .ok (.ifCond .ne 6, 3) := by decide +kernel
theorem dX10_undo_7 : decode cX10_undo 7 = .ok (.ldc 171, 2) := by decide +kernel
theorem dX10_undo_9 : decode cX10_undo 9 = .ok (.ireturn, 1) := by decide +kernel
theorem dX10_undo_10 : decode cX10_undo 10 = .ok (.aload_n 0, 1) := by decide +kernel
theorem dX10_undo_11 : decode cX10_undo 11 = .ok (.dup, 1) := by decide +kernel
theorem dX10_undo_12 : decode cX10_undo 12 = .ok (.getfield 130, 3) := by decide +kernel
theorem dX10_undo_15 : decode cX10_undo 15 = .ok (.iconst 1, 1) := by decide +kernel
theorem dX10_undo_16 : decode cX10_undo 16 = .ok (.isub, 1) := by decide +kernel
theorem dX10_undo_17 : decode cX10_undo 17 = .ok (.putfield 130, 3) := by decide +kernel
theorem dX10_undo_20 : decode cX10_undo 20 = .ok (.iconst 0, 1) := by decide +kernel
theorem dX10_undo_21 : decode cX10_undo 21 = .ok (.istore_n 1, 1) := by decide +kernel
theorem dX10_undo_22 : decode cX10_undo 22 = .ok (.iload_n 1, 1) := by decide +kernel
theorem dX10_undo_23 : decode cX10_undo 23 = .ok (.bipush 81, 2) := by decide +kernel
theorem dX10_undo_25 : decode cX10_undo 25 = .ok (.if_icmp .ge 29, 3) := by decide +kernel
theorem dX10_undo_28 : decode cX10_undo 28 = .ok (.aload_n 0, 1) := by decide +kernel
theorem dX10_undo_29 : decode cX10_undo 29 = .ok (.getfield 13, 3) := by decide +kernel
theorem dX10_undo_32 : decode cX10_undo 32 = .ok (.iload_n 1, 1) := by decide +kernel
theorem dX10_undo_33 : decode cX10_undo 33 = .ok (.aload_n 0, 1) := by decide +kernel
theorem dX10_undo_34 : decode cX10_undo 34 = .ok (.getfield 33, 3) := by decide +kernel
theorem dX10_undo_37 : decode cX10_undo 37 = .ok (.bipush 81, 2) := by decide +kernel
theorem dX10_undo_39 : decode cX10_undo 39 = .ok (.aload_n 0, 1) := by decide +kernel
theorem dX10_undo_40 : decode cX10_undo 40 = .ok (.getfield 130, 3) := by decide +kernel
theorem dX10_undo_43 : decode cX10_undo 43 = .ok (.imul, 1) := by decide +kernel
theorem dX10_undo_44 : decode cX10_undo 44 = .ok (.iload_n 1, 1) := by decide +kernel
theorem dX10_undo_45 : decode cX10_undo 45 = .ok (.iadd, 1) := by decide +kernel
theorem dX10_undo_46 : decode cX10_undo 46 = .ok (.iaload, 1) := by decide +kernel
theorem dX10_undo_47 : decode cX10_undo 47 = .ok (.iastore, 1) := by decide +kernel
theorem dX10_undo_48 : decode cX10_undo 48 = .ok (.iinc 1 1, 3) := by decide +kernel
theorem dX10_undo_51 : decode cX10_undo 51 = .ok (.goto (-29), 3) := by decide +kernel
theorem dX10_undo_54 : decode cX10_undo 54 = .ok (.aload_n 0, 1) := by decide +kernel
theorem dX10_undo_55 : decode cX10_undo 55 = .ok (.getfield 130, 3) := by decide +kernel
theorem dX10_undo_58 : decode cX10_undo 58 = .ok (.ireturn, 1) := by decide +kernel
theorem dX10_sure_0 : decode cX10_sure 0 = .ok (.aload_n 0, 1) := by decide +kernel
theorem dX10_sure_1 : decode cX10_sure 1 = .ok (.iload_n 1, 1) := by decide +kernel
theorem dX10_sure_2 : decode cX10_sure 2 = .ok (.iload_n 2, 1) := by decide +kernel
theorem dX10_sure_3 : decode cX10_sure 3 = .ok (.iload_n 3, 1) := by decide +kernel
theorem dX10_sure_4 : decode cX10_sure 4 = .ok (.invokevirtual 184, 3) := by decide +kernel
theorem dX10_sure_7 : decode cX10_sure 7 = .ok (.istore 4, 2) := by decide +kernel
theorem dX10_sure_9 : decode cX10_sure 9 = .ok (.iload 4, 2) := by decide +kernel
theorem dX10_sure_11 : decode cX10_sure 11 = .ok (.ifCond .ne 16, 3) := by decide +kernel
theorem dX10_sure_14 : decode cX10_sure 14 = .ok (.iload_n 3, 1) := by decide +kernel
theorem dX10_sure_15 : decode cX10_sure 15 = .ok (.iload_n 2, 1) := by decide +kernel
theorem dX10_sure_16 : decode cX10_sure 16 = .ok (.invokestatic 160, 3) := by decide +kernel
theorem dX10_sure_19 : decode cX10_sure 19 = .ok (.ifCond .ne 8, 3) := by decide +kernel
theorem dX10_sure_22 : decode cX10_sure 22 = .ok (.ldc 76, 2) := by decide +kernel
theorem dX10_sure_24 : decode cX10_sure 24 = .ok (.goto 5, 3) := by decide +kernel
theorem dX10_sure_27 : decode cX10_sure 27 = .ok (.iload 4, 2) := by decide +kernel
theorem dX10_sure_29 : decode cX10_sure 29 = .ok (.istore 4, 2) := by decide +kernel
theorem dX10_sure_31 : decode cX10_sure 31 = .ok (.iload 4, 2) := by decide +kernel
theorem dX10_sure_33 : decode cX10_sure 33 = .ok (.ifCond .eq 8, 3) := by decide +kernel
theorem dX10_sure_36 : decode cX10_sure 36 = .ok (.iload 4, 2) := by decide +kernel
theorem dX10_sure_38 : decode cX10_sure 38 = .ok (.goto 9, 3) := by decide +kernel
theorem dX10_sure_41 : decode cX10_sure 41 = .ok (.aload_n 0, 1) := by decide +kernel
theorem dX10_sure_42 : decode cX10_sure 42 = .ok (.iload_n 1, 1) := by decide +kernel
theorem dX10_sure_43 : decode cX10_sure 43 = .ok (.iload_n 2, 1) := by decide +kernel
theorem dX10_sure_44 : decode cX10_sure 44 = .ok (.invokevirtual 188, 3) := by decide +kernel
theorem dX10_sure_47 : decode cX10_sure 47 = .ok (.istore 4, 2) := by decide +kernel
theorem dX10_sure_49 : decode cX10_sure 49 = .ok (.iload 4, 2) := by decide +kernel
theorem dX10_sure_51 : decode cX10_sure 51 = .ok (.ifCond .eq 8, 3) := by decide +kernel
theorem dX10_sure_54 : decode cX10_sure 54 = .ok (.iload 4, 2) := by decide +kernel
theorem dX10_sure_56 : decode cX10_sure 56 = .ok (.goto 15, 3) := by decide +kernel
theorem dX10_sure_59 : decode cX10_sure 59 = .ok (.aload_n 0, 1) := by decide +kernel
theorem dX10_sure_60 : decode cX10_sure 60 = .ok (.aload_n 0, 1) := by decide +kernel
theorem dX10_sure_61 : decode cX10_sure 61 = .ok (.iload_n 1, 1) := by decide +kernel
theorem dX10_sure_62 : decode cX10_sure 62 = .ok (.iload_n 2, 1) := by decide +kernel
theorem dX10_sure_63 : decode cX10_sure 63 = .ok (.invokevirtual 133, 3) := by decide +kernel
theorem dX10_sure_66 : decode cX10_sure 66 = .ok (.iload_n 2, 1) := by decide +kernel
theorem dX10_sure_67 : decode cX10_sure 67 = .ok (.iload_n 3, 1) := by decide +kernel
theorem dX10_sure_68 : decode cX10_sure 68 = .ok (.invokevirtual 206, 3) := by decide +kernel
theorem dX10_sure_71 : decode cX10_sure 71 = .ok (.ireturn, 1) := by decide +kernel
theorem dX10_bestRow_0 : decode cX10_bestRow 0 = .ok (.aload_n 0, 1) := by decide +kernel
theorem dX10_bestRow_1 : decode cX10_bestRow 1 = .ok (.iload_n 1, 1) := by decide +kernel
theorem dX10_bestRow_2 : decode cX10_bestRow 2 = .ok (.iload_n 2, 1) := by decide +kernel
theorem dX10_bestRow_3 : decode cX10_bestRow 3 = .ok (.invokevirtual 156, 3) := by decide +kernel
theorem dX10_bestRow_6 : decode cX10_bestRow 6 = .ok (.ifCond .ne 6, 3) := by decide +kernel
theorem dX10_bestRow_9 : decode cX10_bestRow 9 = .ok (.ldc 152, 2) := by decide +kernel
theorem dX10_bestRow_11 : decode cX10_bestRow 11 = .ok (.ireturn, 1) := by decide +kernel
theorem dX10_bestRow_12 : decode cX10_bestRow 12 = .ok (.iload_n 3, 1) := by decide +kernel
theorem dX10_bestRow_13 : decode cX10_bestRow 13 = .ok (.i2l, 1) := by decide +kernel
theorem dX10_bestRow_14 : decode cX10_bestRow 14 = .ok (.ldc2_w 209, 3) := by decide +kernel
theorem dX10_bestRow_17 : decode cX10_bestRow 17 = .ok (.ldc2_w 211, 3) := by decide +kernel
theorem dX10_bestRow_20 : decode cX10_bestRow 20 = .ok (.invokestatic 66, 3) := by decide +kernel
theorem dX10_bestRow_23 : decode cX10_bestRow 23 = .ok (.ifCond .ne 6, 3) := by decide +kernel
theorem dX10_bestRow_26 : decode cX10_bestRow 26 = .ok (.ldc 76, 2) := by decide +kernel
theorem dX10_bestRow_28 : decode cX10_bestRow 28 = .ok (.ireturn, 1) := by decide +kernel
theorem dX10_bestRow_29 : decode cX10_bestRow 29 = .ok (.aload_n 0, 1) := by decide +kernel
theorem dX10_bestRow_30 : decode cX10_bestRow 30 = .ok (.iload_n 1, 1) := by decide +kernel
theorem dX10_bestRow_31 : decode cX10_bestRow 31 = .ok (.iload_n 2, 1) := by decide +kernel
theorem dX10_bestRow_32 : decode cX10_bestRow 32 = .ok (.invokevirtual 133, 3) := by decide +kernel
theorem dX10_bestRow_35 : decode cX10_bestRow 35 = .ok (.ifCond .ge 6, 3) := by decide +kernel
theorem dX10_bestRow_38 : decode cX10_bestRow 38 = .ok (.ldc 171, 2) := by decide +kernel
theorem dX10_bestRow_40 : decode cX10_bestRow 40 = .ok (.ireturn, 1) := by decide +kernel
theorem dX10_bestRow_41 : decode cX10_bestRow 41 = .ok (.iconst (-1), 1) := by decide +kernel
theorem dX10_bestRow_42 : decode cX10_bestRow 42 = .ok (.istore 4, 2) := by decide +kernel
theorem dX10_bestRow_44 : decode cX10_bestRow 44 = .ok (.iconst 0, 1) := by decide +kernel
theorem dX10_bestRow_45 : decode cX10_bestRow 45 = .ok (.istore 5, 2) := by decide +kernel
theorem dX10_bestRow_47 : decode cX10_bestRow 47 = .ok (.iconst 0, 1) := by decide +kernel
theorem dX10_bestRow_48 : decode cX10_bestRow 48 = .ok (.istore 6, 2) := by decide +kernel
theorem dX10_bestRow_50 : decode cX10_bestRow 50 = .ok (.iload 6, 2) := by decide +kernel
theorem dX10_bestRow_52 : decode cX10_bestRow 52 = .ok (.iconst 1, 1) := by decide +kernel
theorem dX10_bestRow_53 : decode cX10_bestRow 53 = .ok (.aload_n 0, 1) := by decide +kernel
theorem dX10_bestRow_54 : decode cX10_bestRow 54 = .ok (.getfield 63, 3) := by decide +kernel
theorem dX10_bestRow_57 : decode cX10_bestRow 57 = .ok (.ishl, 1) := by decide +kernel
theorem dX10_bestRow_58 : decode cX10_bestRow 58 = .ok (.if_icmp .ge 83, 3) := by decide +kernel
theorem dX10_bestRow_61 : decode cX10_bestRow 61 = .ok (.iload 6, 2) := by decide +kernel
theorem dX10_bestRow_63 : decode cX10_bestRow 63 = .ok (.invokestatic 140, 3) := by decide +kernel
theorem dX10_bestRow_66 : decode cX10_bestRow 66 = .ok (.iload_n 3, 1) := by decide +kernel
theorem dX10_bestRow_67 : decode cX10_bestRow 67 = .ok (.if_icmp .ne 68, 3) := by decide +kernel
theorem dX10_bestRow_70 : decode cX10_bestRow 70 = .ok (.iload 6, 2) := by decide +kernel
theorem dX10_bestRow_72 : decode cX10_bestRow 72 = .ok (.iload_n 2, 1) := by decide +kernel
theorem dX10_bestRow_73 : decode cX10_bestRow 73 = .ok (.invokestatic 160, 3) := by decide +kernel
theorem dX10_bestRow_76 : decode cX10_bestRow 76 = .ok (.ifCond .eq 59, 3) := by decide +kernel
theorem dX10_bestRow_79 : decode cX10_bestRow 79 = .ok (.iload 6, 2) := by decide +kernel
theorem dX10_bestRow_81 : decode cX10_bestRow 81 = .ok (.iload_n 1, 1) := by decide +kernel
theorem dX10_bestRow_82 : decode cX10_bestRow 82 = .ok (.invokestatic 160, 3) := by decide +kernel
theorem dX10_bestRow_85 : decode cX10_bestRow 85 = .ok (.ifCond .ne 50, 3) := by decide +kernel
theorem dX10_bestRow_88 : decode cX10_bestRow 88 = .ok (.aload_n 0, 1) := by decide +kernel
theorem dX10_bestRow_89 : decode cX10_bestRow 89 = .ok (.aload_n 0, 1) := by decide +kernel
theorem dX10_bestRow_90 : decode cX10_bestRow 90 = .ok (.iload_n 1, 1) := by decide +kernel
theorem dX10_bestRow_91 : decode cX10_bestRow 91 = .ok (.iload_n 2, 1) := by decide +kernel
theorem dX10_bestRow_92 : decode cX10_bestRow 92 = .ok (.invokevirtual 133, 3) := by decide +kernel
theorem dX10_bestRow_95 : decode cX10_bestRow 95 = .ok (.iload_n 2, 1) := by decide +kernel
theorem dX10_bestRow_96 : decode cX10_bestRow 96 = .ok (.iload 6, 2) := by decide +kernel
theorem dX10_bestRow_98 : decode cX10_bestRow 98 = .ok (.invokevirtual 206, 3) := by decide +kernel
theorem dX10_bestRow_101 : decode cX10_bestRow 101 = .ok (.istore 7, 2) := by decide +kernel
theorem dX10_bestRow_103 : decode cX10_bestRow 103 = .ok (.iload 7, 2) := by decide +kernel
theorem dX10_bestRow_105 : decode cX10_bestRow 105 = .ok (.iload 5, 2) := by decide +kernel
theorem dX10_bestRow_107 : decode cX10_bestRow 107 = .ok (.if_icmp .le 8, 3) := by decide +kernel
theorem dX10_bestRow_110 : decode cX10_bestRow 110 = .ok (.iload 6, 2) := by decide +kernel
theorem dX10_bestRow_112 : decode cX10_bestRow 112 = .ok (.goto 5, 3) := by decide +kernel
theorem dX10_bestRow_115 : decode cX10_bestRow 115 = .ok (.iload 4, 2) := by decide +kernel
theorem dX10_bestRow_117 : decode cX10_bestRow 117 = .ok (.istore 4, 2) := by decide +kernel
theorem dX10_bestRow_119 : decode cX10_bestRow 119 = .ok (.iload 7, 2) := by decide +kernel
theorem dX10_bestRow_121 : decode cX10_bestRow 121 = .ok (.iload 5, 2) := by decide +kernel
theorem dX10_bestRow_123 : decode cX10_bestRow 123 = .ok (.if_icmp .le 8, 3) := by decide +kernel
theorem dX10_bestRow_126 : decode cX10_bestRow 126 = .ok (.iload 7, 2) := by decide +kernel
theorem dX10_bestRow_128 : decode cX10_bestRow 128 = .ok (.goto 5, 3) := by decide +kernel
theorem dX10_bestRow_131 : decode cX10_bestRow 131 = .ok (.iload 5, 2) := by decide +kernel
theorem dX10_bestRow_133 : decode cX10_bestRow 133 = .ok (.istore 5, 2) := by decide +kernel
theorem dX10_bestRow_135 : decode cX10_bestRow 135 = .ok (.iinc 6 1, 3) := by decide +kernel
theorem dX10_bestRow_138 : decode cX10_bestRow 138 = .ok (.goto (-88), 3) := by decide +kernel
theorem dX10_bestRow_141 : decode cX10_bestRow 141 = .ok (.iload 4, 2) := by decide +kernel
theorem dX10_bestRow_143 : decode cX10_bestRow 143 = .ok (.ireturn, 1) := by decide +kernel
theorem dX10_odds_0 : decode cX10_odds 0 = .ok (.aload_n 0, 1) := by decide +kernel
theorem dX10_odds_1 : decode cX10_odds 1 = .ok (.iload 4, 2) := by decide +kernel
theorem dX10_odds_3 : decode cX10_odds 3 = .ok (.invokevirtual 70, 3) := by decide +kernel
theorem dX10_odds_6 : decode cX10_odds 6 = .ok (.ifCond .eq 13, 3) := by decide +kernel
theorem dX10_odds_9 : decode cX10_odds 9 = .ok (.aload_n 0, 1) := by decide +kernel
theorem dX10_odds_10 : decode cX10_odds 10 = .ok (.iload_n 1, 1) := by decide +kernel
theorem dX10_odds_11 : decode cX10_odds 11 = .ok (.iload_n 2, 1) := by decide +kernel
theorem dX10_odds_12 : decode cX10_odds 12 = .ok (.iload_n 3, 1) := by decide +kernel
theorem dX10_odds_13 : decode cX10_odds 13 = .ok (.invokevirtual 184, 3) := by decide +kernel
theorem dX10_odds_16 : decode cX10_odds 16 = .ok (.goto 5, 3) := by decide +kernel
theorem dX10_odds_19 : decode cX10_odds 19 = .ok (.ldc 152, 2) := by decide +kernel
theorem dX10_odds_21 : decode cX10_odds 21 = .ok (.istore 5, 2) := by decide +kernel
theorem dX10_odds_23 : decode cX10_odds 23 = .ok (.iload 5, 2) := by decide +kernel
theorem dX10_odds_25 : decode cX10_odds 25 = .ok (.ifCond .eq 8, 3) := by decide +kernel
theorem dX10_odds_28 : decode cX10_odds 28 = .ok (.iload 5, 2) := by decide +kernel
theorem dX10_odds_30 : decode cX10_odds 30 = .ok (.goto 9, 3) := by decide +kernel
theorem dX10_odds_33 : decode cX10_odds 33 = .ok (.aload_n 0, 1) := by decide +kernel
theorem dX10_odds_34 : decode cX10_odds 34 = .ok (.iload_n 1, 1) := by decide +kernel
theorem dX10_odds_35 : decode cX10_odds 35 = .ok (.iload_n 2, 1) := by decide +kernel
theorem dX10_odds_36 : decode cX10_odds 36 = .ok (.invokevirtual 188, 3) := by decide +kernel
theorem dX10_odds_39 : decode cX10_odds 39 = .ok (.istore 5, 2) := by decide +kernel
theorem dX10_odds_41 : decode cX10_odds 41 = .ok (.iload 5, 2) := by decide +kernel
theorem dX10_odds_43 : decode cX10_odds 43 = .ok (.ifCond .eq 6, 3) := by decide +kernel
theorem dX10_odds_46 : decode cX10_odds 46 = .ok (.iload 5, 2) := by decide +kernel
theorem dX10_odds_48 : decode cX10_odds 48 = .ok (.ireturn, 1) := by decide +kernel
theorem dX10_odds_49 : decode cX10_odds 49 = .ok (.iconst 0, 1) := by decide +kernel
theorem dX10_odds_50 : decode cX10_odds 50 = .ok (.istore 6, 2) := by decide +kernel
theorem dX10_odds_52 : decode cX10_odds 52 = .ok (.iconst 0, 1) := by decide +kernel
theorem dX10_odds_53 : decode cX10_odds 53 = .ok (.istore 7, 2) := by decide +kernel
theorem dX10_odds_55 : decode cX10_odds 55 = .ok (.iload 7, 2) := by decide +kernel
theorem dX10_odds_57 : decode cX10_odds 57 = .ok (.aload_n 0, 1) := by decide +kernel
theorem dX10_odds_58 : decode cX10_odds 58 = .ok (.getfield 63, 3) := by decide +kernel
theorem dX10_odds_61 : decode cX10_odds 61 = .ok (.if_icmp .ge 46, 3) := by decide +kernel
theorem dX10_odds_64 : decode cX10_odds 64 = .ok (.iload 6, 2) := by decide +kernel
theorem dX10_odds_66 : decode cX10_odds 66 = .ok (.iload_n 3, 1) := by decide +kernel
theorem dX10_odds_67 : decode cX10_odds 67 = .ok (.iload 7, 2) := by decide +kernel
theorem dX10_odds_69 : decode cX10_odds 69 = .ok (.invokestatic 160, 3) := by decide +kernel
theorem dX10_odds_72 : decode cX10_odds 72 = .ok (.ifCond .eq 25, 3) := by decide +kernel
theorem dX10_odds_75 : decode cX10_odds 75 = .ok (.bipush 9, 2) := by decide +kernel
theorem dX10_odds_77 : decode cX10_odds 77 = .ok (.aload_n 0, 1) := by decide +kernel
theorem dX10_odds_78 : decode cX10_odds 78 = .ok (.getfield 13, 3) := by decide +kernel
theorem dX10_odds_81 : decode cX10_odds 81 = .ok (.iload 7, 2) := by decide +kernel
theorem dX10_odds_83 : decode cX10_odds 83 = .ok (.iaload, 1) := by decide +kernel
theorem dX10_odds_84 : decode cX10_odds 84 = .ok (.aload_n 0, 1) := by decide +kernel
theorem dX10_odds_85 : decode cX10_odds 85 = .ok (.iload_n 1, 1) := by decide +kernel
theorem dX10_odds_86 : decode cX10_odds 86 = .ok (.iload_n 2, 1) := by decide +kernel
theorem dX10_odds_87 : decode cX10_odds 87 = .ok (.invokevirtual 133, 3) := by decide +kernel
theorem dX10_odds_90 : decode cX10_odds 90 = .ok (.invokestatic 163, 3) := by decide +kernel
theorem dX10_odds_93 : decode cX10_odds 93 = .ok (.isub, 1) := by decide +kernel
theorem dX10_odds_94 : decode cX10_odds 94 = .ok (.goto 4, 3) := by decide +kernel
theorem dX10_odds_97 : decode cX10_odds 97 = .ok (.iconst 0, 1) := by decide +kernel
theorem dX10_odds_98 : decode cX10_odds 98 = .ok (.iadd, 1) := by decide +kernel
theorem dX10_odds_99 : decode cX10_odds 99 = .ok (.istore 6, 2) := by decide +kernel
theorem dX10_odds_101 : decode cX10_odds 101 = .ok (.iinc 7 1, 3) := by decide +kernel
theorem dX10_odds_104 : decode cX10_odds 104 = .ok (.goto (-49), 3) := by decide +kernel
theorem dX10_odds_107 : decode cX10_odds 107 = .ok (.iload_n 3, 1) := by decide +kernel
theorem dX10_odds_108 : decode cX10_odds 108 = .ok (.iload 4, 2) := by decide +kernel
theorem dX10_odds_110 : decode cX10_odds 110 = .ok (.invokestatic 160, 3) := by decide +kernel
theorem dX10_odds_113 : decode cX10_odds 113 = .ok (.ifCond .eq 31, 3) := by decide +kernel
theorem dX10_odds_116 : decode cX10_odds 116 = .ok (.bipush 9, 2) := by decide +kernel
theorem dX10_odds_118 : decode cX10_odds 118 = .ok (.aload_n 0, 1) := by decide +kernel
theorem dX10_odds_119 : decode cX10_odds 119 = .ok (.getfield 13, 3) := by decide +kernel
theorem dX10_odds_122 : decode cX10_odds 122 = .ok (.iload 4, 2) := by decide +kernel
theorem dX10_odds_124 : decode cX10_odds 124 = .ok (.iaload, 1) := by decide +kernel
theorem dX10_odds_125 : decode cX10_odds 125 = .ok (.aload_n 0, 1) := by decide +kernel
theorem dX10_odds_126 : decode cX10_odds 126 = .ok (.iload_n 1, 1) := by decide +kernel
theorem dX10_odds_127 : decode cX10_odds 127 = .ok (.iload_n 2, 1) := by decide +kernel
theorem dX10_odds_128 : decode cX10_odds 128 = .ok (.invokevirtual 133, 3) := by decide +kernel
theorem dX10_odds_131 : decode cX10_odds 131 = .ok (.invokestatic 163, 3) := by decide +kernel
theorem dX10_odds_134 : decode cX10_odds 134 = .ok (.isub, 1) := by decide +kernel
theorem dX10_odds_135 : decode cX10_odds 135 = .ok (.ldc 213, 2) := by decide +kernel
theorem dX10_odds_137 : decode cX10_odds 137 = .ok (.imul, 1) := by decide +kernel
theorem dX10_odds_138 : decode cX10_odds 138 = .ok (.iload 6, 2) := by decide +kernel
theorem dX10_odds_140 : decode cX10_odds 140 = .ok (.idiv, 1) := by decide +kernel
theorem dX10_odds_141 : decode cX10_odds 141 = .ok (.goto 4, 3) := by decide +kernel
theorem dX10_odds_144 : decode cX10_odds 144 = .ok (.iconst 0, 1) := by decide +kernel
theorem dX10_odds_145 : decode cX10_odds 145 = .ok (.ireturn, 1) := by decide +kernel
theorem dX10_ask_0 : decode cX10_ask 0 = .ok (.aload_n 0, 1) := by decide +kernel
theorem dX10_ask_1 : decode cX10_ask 1 = .ok (.iload_n 1, 1) := by decide +kernel
theorem dX10_ask_2 : decode cX10_ask 2 = .ok (.invokevirtual 70, 3) := by decide +kernel
theorem dX10_ask_5 : decode cX10_ask 5 = .ok (.ifCond .eq 11, 3) := by decide +kernel
theorem dX10_ask_8 : decode cX10_ask 8 = .ok (.aload_n 0, 1) := by decide +kernel
theorem dX10_ask_9 : decode cX10_ask 9 = .ok (.iload_n 2, 1) := by decide +kernel
theorem dX10_ask_10 : decode cX10_ask 10 = .ok (.invokevirtual 181, 3) := by decide +kernel
theorem dX10_ask_13 : decode cX10_ask 13 = .ok (.ifCond .ne 6, 3) := by decide +kernel
theorem dX10_ask_16 : decode cX10_ask 16 = .ok (.ldc 152, 2) := by decide +kernel
theorem dX10_ask_18 : decode cX10_ask 18 = .ok (.ireturn, 1) := by decide +kernel
theorem dX10_ask_19 : decode cX10_ask 19 = .ok (.iload_n 2, 1) := by decide +kernel
theorem dX10_ask_20 : decode cX10_ask 20 = .ok (.invokestatic 140, 3) := by decide +kernel
theorem dX10_ask_23 : decode cX10_ask 23 = .ok (.iconst 2, 1) := by decide +kernel
theorem dX10_ask_24 : decode cX10_ask 24 = .ok (.if_icmp .lt 11, 3) := by decide +kernel
theorem dX10_ask_27 : decode cX10_ask 27 = .ok (.iload_n 2, 1) := by decide +kernel
theorem dX10_ask_28 : decode cX10_ask 28 = .ok (.iload_n 1, 1) := by decide +kernel
theorem dX10_ask_29 : decode cX10_ask 29 = .ok (.invokestatic 160, 3) := by decide +kernel
theorem dX10_ask_32 : decode cX10_ask 32 = .ok (.ifCond .ne 6, 3) := by decide +kernel
theorem dX10_ask_35 : decode cX10_ask 35 = .ok (.ldc 76, 2) := by decide +kernel
theorem dX10_ask_37 : decode cX10_ask 37 = .ok (.ireturn, 1) := by decide +kernel
theorem dX10_ask_38 : decode cX10_ask 38 = .ok (.iconst (-1), 1) := by decide +kernel
theorem dX10_ask_39 : decode cX10_ask 39 = .ok (.istore_n 3, 1) := by decide +kernel
theorem dX10_ask_40 : decode cX10_ask 40 = .ok (.iconst 0, 1) := by decide +kernel
theorem dX10_ask_41 : decode cX10_ask 41 = .ok (.istore 4, 2) := by decide +kernel
theorem dX10_ask_43 : decode cX10_ask 43 = .ok (.iconst 0, 1) := by decide +kernel
theorem dX10_ask_44 : decode cX10_ask 44 = .ok (.istore 5, 2) := by decide +kernel
theorem dX10_ask_46 : decode cX10_ask 46 = .ok (.iload 5, 2) := by decide +kernel
theorem dX10_ask_48 : decode cX10_ask 48 = .ok (.aload_n 0, 1) := by decide +kernel
theorem dX10_ask_49 : decode cX10_ask 49 = .ok (.getfield 63, 3) := by decide +kernel
theorem dX10_ask_52 : decode cX10_ask 52 = .ok (.if_icmp .ge 77, 3) := by decide +kernel
theorem dX10_ask_55 : decode cX10_ask 55 = .ok (.iload_n 2, 1) := by decide +kernel
theorem dX10_ask_56 : decode cX10_ask 56 = .ok (.iload 5, 2) := by decide +kernel
theorem dX10_ask_58 : decode cX10_ask 58 = .ok (.invokestatic 160, 3) := by decide +kernel
theorem dX10_ask_61 : decode cX10_ask 61 = .ok (.ifCond .ne 13, 3) := by decide +kernel
theorem dX10_ask_64 : decode cX10_ask 64 = .ok (.aload_n 0, 1) := by decide +kernel
theorem dX10_ask_65 : decode cX10_ask 65 = .ok (.iload 5, 2) := by decide +kernel
theorem dX10_ask_67 : decode cX10_ask 67 = .ok (.iload_n 1, 1) := by decide +kernel
theorem dX10_ask_68 : decode cX10_ask 68 = .ok (.invokevirtual 133, 3) := by decide +kernel
theorem dX10_ask_71 : decode cX10_ask 71 = .ok (.ifCond .ge 7, 3) := by decide +kernel
theorem dX10_ask_74 : decode cX10_ask 74 = .ok (.iconst 0, 1) := by decide +kernel
theorem dX10_ask_75 : decode cX10_ask 75 = .ok (.goto 16, 3) := by decide +kernel
theorem dX10_ask_78 : decode cX10_ask 78 = .ok (.aload_n 0, 1) := by decide +kernel
theorem dX10_ask_79 : decode cX10_ask 79 = .ok (.aload_n 0, 1) := by decide +kernel
theorem dX10_ask_80 : decode cX10_ask 80 = .ok (.iload 5, 2) := by decide +kernel
theorem dX10_ask_82 : decode cX10_ask 82 = .ok (.iload_n 1, 1) := by decide +kernel
theorem dX10_ask_83 : decode cX10_ask 83 = .ok (.invokevirtual 133, 3) := by decide +kernel
theorem dX10_ask_86 : decode cX10_ask 86 = .ok (.iload_n 1, 1) := by decide +kernel
theorem dX10_ask_87 : decode cX10_ask 87 = .ok (.iload_n 2, 1) := by decide +kernel
theorem dX10_ask_88 : decode cX10_ask 88 = .ok (.invokevirtual 206, 3) := by decide +kernel
theorem dX10_ask_91 : decode cX10_ask 91 = .ok (.istore 6, 2) := by decide +kernel
theorem dX10_ask_93 : decode cX10_ask 93 = .ok (.iload 6, 2) := by decide +kernel
theorem dX10_ask_95 : decode cX10_ask 95 = .ok (.iload 4, 2) := by decide +kernel
theorem dX10_ask_97 : decode cX10_ask 97 = .ok (.if_icmp .le 8, 3) := by decide +kernel
theorem dX10_ask_100 : decode cX10_ask 100 = .ok (.iload 5, 2) := by decide +kernel
theorem dX10_ask_102 : decode cX10_ask 102 = .ok (.goto 4, 3) := by decide +kernel
theorem dX10_ask_105 : decode cX10_ask 105 = .ok (.iload_n 3, 1) := by decide +kernel
theorem dX10_ask_106 : decode cX10_ask 106 = .ok (.istore_n 3, 1) := by decide +kernel
theorem dX10_ask_107 : decode cX10_ask 107 = .ok (.iload 6, 2) := by decide +kernel
theorem dX10_ask_109 : decode cX10_ask 109 = .ok (.iload 4, 2) := by decide +kernel
theorem dX10_ask_111 : decode cX10_ask 111 = .ok (.if_icmp .le 8, 3) := by decide +kernel
theorem dX10_ask_114 : decode cX10_ask 114 = .ok (.iload 6, 2) := by decide +kernel
theorem dX10_ask_116 : decode cX10_ask 116 = .ok (.goto 5, 3) := by decide +kernel
theorem dX10_ask_119 : decode cX10_ask 119 = .ok (.iload 4, 2) := by decide +kernel
theorem dX10_ask_121 : decode cX10_ask 121 = .ok (.istore 4, 2) := by decide +kernel
theorem dX10_ask_123 : decode cX10_ask 123 = .ok (.iinc 5 1, 3) := by decide +kernel
theorem dX10_ask_126 : decode cX10_ask 126 = .ok (.goto (-80), 3) := by decide +kernel
theorem dX10_ask_129 : decode cX10_ask 129 = .ok (.iload_n 3, 1) := by decide +kernel
theorem dX10_ask_130 : decode cX10_ask 130 = .ok (.ireturn, 1) := by decide +kernel
theorem dX10_ringOf_0 : decode cX10_ringOf 0 = .ok (.iload_n 1, 1) := by decide +kernel
theorem dX10_ringOf_1 : decode cX10_ringOf 1 = .ok (.istore_n 2, 1) := by decide +kernel
theorem dX10_ringOf_2 : decode cX10_ringOf 2 = .ok (.iconst 1, 1) := by decide +kernel
theorem dX10_ringOf_3 : decode cX10_ringOf 3 = .ok (.istore_n 3, 1) := by decide +kernel
theorem dX10_ringOf_4 : decode cX10_ringOf 4 = .ok (.iload_n 3, 1) := by decide +kernel
theorem dX10_ringOf_5 : decode cX10_ringOf 5 = .ok (.bipush 8, 2) := by decide +kernel
theorem dX10_ringOf_7 : decode cX10_ringOf 7 = .ok (.if_icmp .gt 26, 3) := by decide +kernel
theorem dX10_ringOf_10 : decode cX10_ringOf 10 = .ok (.aload_n 0, 1) := by decide +kernel
theorem dX10_ringOf_11 : decode cX10_ringOf 11 = .ok (.getfield 13, 3) := by decide +kernel
theorem dX10_ringOf_14 : decode cX10_ringOf 14 = .ok (.bipush 8, 2) := by decide +kernel
theorem dX10_ringOf_16 : decode cX10_ringOf 16 = .ok (.iload_n 2, 1) := by decide +kernel
theorem dX10_ringOf_17 : decode cX10_ringOf 17 = .ok (.iadd, 1) := by decide +kernel
theorem dX10_ringOf_18 : decode cX10_ringOf 18 = .ok (.iaload, 1) := by decide +kernel
theorem dX10_ringOf_19 : decode cX10_ringOf 19 = .ok (.istore_n 2, 1) := by decide +kernel
theorem dX10_ringOf_20 : decode cX10_ringOf 20 = .ok (.iload_n 2, 1) := by decide +kernel
theorem dX10_ringOf_21 : decode cX10_ringOf 21 = .ok (.iload_n 1, 1) := by decide +kernel
theorem dX10_ringOf_22 : decode cX10_ringOf 22 = .ok (.if_icmp .ne 5, 3) := by decide +kernel
theorem dX10_ringOf_25 : decode cX10_ringOf 25 = .ok (.iload_n 3, 1) := by decide +kernel
theorem dX10_ringOf_26 : decode cX10_ringOf 26 = .ok (.ireturn, 1) := by decide +kernel
theorem dX10_ringOf_27 : decode cX10_ringOf 27 = .ok (.iinc 3 1, 3) := by decide +kernel
theorem dX10_ringOf_30 : decode cX10_ringOf 30 = .ok (.goto (-26), 3) := by decide +kernel
theorem dX10_ringOf_33 : decode cX10_ringOf 33 = .ok (.iconst (-1), 1) := by decide +kernel
theorem dX10_ringOf_34 : decode cX10_ringOf 34 = .ok (.ireturn, 1) := by decide +kernel
theorem dX10_ring_0 : decode cX10_ring 0 = .ok (.aload_n 0, 1) := by decide +kernel
theorem dX10_ring_1 : decode cX10_ring 1 = .ok (.iload_n 1, 1) := by decide +kernel
theorem dX10_ring_2 : decode cX10_ring 2 = .ok (.invokevirtual 70, 3) := by decide +kernel
theorem dX10_ring_5 : decode cX10_ring 5 = .ok (.ifCond .eq 11, 3) := by decide +kernel
theorem dX10_ring_8 : decode cX10_ring 8 = .ok (.aload_n 0, 1) := by decide +kernel
theorem dX10_ring_9 : decode cX10_ring 9 = .ok (.iload_n 1, 1) := by decide +kernel
theorem dX10_ring_10 : decode cX10_ring 10 = .ok (.invokevirtual 214, 3) := by decide +kernel
theorem dX10_ring_13 : decode cX10_ring 13 = .ok (.goto 5, 3) := by decide +kernel
theorem dX10_ring_16 : decode cX10_ring 16 = .ok (.ldc 152, 2) := by decide +kernel
theorem dX10_ring_18 : decode cX10_ring 18 = .ok (.ireturn, 1) := by decide +kernel
theorem dX10_rings_0 : decode cX10_rings 0 = .ok (.iload_n 1, 1) := by decide +kernel
theorem dX10_rings_1 : decode cX10_rings 1 = .ok (.i2l, 1) := by decide +kernel
theorem dX10_rings_2 : decode cX10_rings 2 = .ok (.lconst 0, 1) := by decide +kernel
theorem dX10_rings_3 : decode cX10_rings 3 = .ok (.ldc2_w 209, 3) := by decide +kernel
theorem dX10_rings_6 : decode cX10_rings 6 = .ok (.invokestatic 66, 3) := by decide +kernel
theorem dX10_rings_9 : decode cX10_rings 9 = .ok (.ifCond .ne 6, 3) := by decide +kernel
theorem dX10_rings_12 : decode cX10_rings 12 = .ok (.ldc 76, 2) := by decide +kernel
theorem dX10_rings_14 : decode cX10_rings 14 = .ok (.ireturn, 1) := by decide +kernel
theorem dX10_rings_15 : decode cX10_rings 15 = .ok (.iconst 0, 1) := by decide +kernel
theorem dX10_rings_16 : decode cX10_rings 16 = .ok (.istore_n 2, 1) := by decide +kernel
theorem dX10_rings_17 : decode cX10_rings 17 = .ok (.iconst 0, 1) := by decide +kernel
theorem dX10_rings_18 : decode cX10_rings 18 = .ok (.istore_n 3, 1) := by decide +kernel
theorem dX10_rings_19 : decode cX10_rings 19 = .ok (.iload_n 3, 1) := by decide +kernel
theorem dX10_rings_20 : decode cX10_rings 20 = .ok (.aload_n 0, 1) := by decide +kernel
theorem dX10_rings_21 : decode cX10_rings 21 = .ok (.getfield 63, 3) := by decide +kernel
theorem dX10_rings_24 : decode cX10_rings 24 = .ok (.if_icmp .ge 93, 3) := by decide +kernel
theorem dX10_rings_27 : decode cX10_rings 27 = .ok (.aload_n 0, 1) := by decide +kernel
theorem dX10_rings_28 : decode cX10_rings 28 = .ok (.getfield 13, 3) := by decide +kernel
theorem dX10_rings_31 : decode cX10_rings 31 = .ok (.bipush 8, 2) := by decide +kernel
theorem dX10_rings_33 : decode cX10_rings 33 = .ok (.iload_n 3, 1) := by decide +kernel
theorem dX10_rings_34 : decode cX10_rings 34 = .ok (.iadd, 1) := by decide +kernel
theorem dX10_rings_35 : decode cX10_rings 35 = .ok (.iaload, 1) := by decide +kernel
theorem dX10_rings_36 : decode cX10_rings 36 = .ok (.iload_n 3, 1) := by decide +kernel
theorem dX10_rings_37 : decode cX10_rings 37 = .ok (.if_icmp .eq 7, 3) := by decide +kernel
theorem dX10_rings_40 : decode cX10_rings 40 = .ok (.iconst 1, 1) := by decide +kernel
theorem dX10_rings_41 : decode cX10_rings 41 = .ok (.goto 4, 3) := by decide +kernel
theorem dX10_rings_44 : decode cX10_rings 44 = .ok (.iconst 0, 1) := by decide +kernel
theorem dX10_rings_45 : decode cX10_rings 45 = .ok (.istore 4, 2) := by decide +kernel
theorem dX10_rings_47 : decode cX10_rings 47 = .ok (.iload_n 1, 1) := by decide +kernel
theorem dX10_rings_48 : decode cX10_rings 48 = .ok (.ifCond .ne 20, 3) := by decide +kernel
theorem dX10_rings_51 : decode cX10_rings 51 = .ok (.aload_n 0, 1) := by decide +kernel
theorem dX10_rings_52 : decode cX10_rings 52 = .ok (.iload_n 3, 1) := by decide +kernel
theorem dX10_rings_53 : decode cX10_rings 53 = .ok (.invokevirtual 214, 3) := by decide +kernel
theorem dX10_rings_56 : decode cX10_rings 56 = .ok (.iconst 1, 1) := by decide +kernel
theorem dX10_rings_57 : decode cX10_rings 57 = .ok (.if_icmp .le 7, 3) := by decide +kernel
theorem dX10_rings_60 : decode cX10_rings 60 = .ok (.iconst 1, 1) := by decide +kernel
theorem dX10_rings_61 : decode cX10_rings 61 = .ok (.goto 35, 3) := by decide +kernel
theorem dX10_rings_64 : decode cX10_rings 64 = .ok (.iconst 0, 1) := by decide +kernel
theorem dX10_rings_65 : decode cX10_rings 65 = .ok (.goto 31, 3) := by decide +kernel
theorem dX10_rings_68 : decode cX10_rings 68 = .ok (.iload_n 1, 1) := by decide +kernel
theorem dX10_rings_69 : decode cX10_rings 69 = .ok (.iconst 1, 1) := by decide +kernel
theorem dX10_rings_70 : decode cX10_rings 70 = .ok (.if_icmp .ne 8, 3) := by decide +kernel
theorem dX10_rings_73 : decode cX10_rings 73 = .ok (.iload 4, 2) := by decide +kernel
theorem dX10_rings_75 : decode cX10_rings 75 = .ok (.goto 21, 3) := by decide +kernel
theorem dX10_rings_78 : decode cX10_rings 78 = .ok (.iload 4, 2) := by decide +kernel
theorem dX10_rings_80 : decode cX10_rings 80 = .ok (.ifCond .eq 15, 3) := by decide +kernel
theorem dX10_rings_83 : decode cX10_rings 83 = .ok (.aload_n 0, 1) := by decide +kernel
theorem dX10_rings_84 : decode cX10_rings 84 = .ok (.iload_n 3, 1) := by decide +kernel
theorem dX10_rings_85 : decode cX10_rings 85 = .ok (.invokevirtual 153, 3) := by decide +kernel
theorem dX10_rings_88 : decode cX10_rings 88 = .ok (.ifCond .eq 7, 3) := by decide +kernel
theorem dX10_rings_91 : decode cX10_rings 91 = .ok (.iconst 1, 1) := by decide +kernel
theorem dX10_rings_92 : decode cX10_rings 92 = .ok (.goto 4, 3) := by decide +kernel
theorem dX10_rings_95 : decode cX10_rings 95 = .ok (.iconst 0, 1) := by decide +kernel
theorem dX10_rings_96 : decode cX10_rings 96 = .ok (.istore 5, 2) := by decide +kernel
theorem dX10_rings_98 : decode cX10_rings 98 = .ok (.iload_n 2, 1) := by decide +kernel
theorem dX10_rings_99 : decode cX10_rings 99 = .ok (.iload 5, 2) := by decide +kernel
theorem dX10_rings_101 : decode cX10_rings 101 = .ok (.ifCond .eq 7, 3) := by decide +kernel
theorem dX10_rings_104 : decode cX10_rings 104 = .ok (.iconst 1, 1) := by decide +kernel
theorem dX10_rings_105 : decode cX10_rings 105 = .ok (.goto 4, 3) := by decide +kernel
theorem dX10_rings_108 : decode cX10_rings 108 = .ok (.iconst 0, 1) := by decide +kernel
theorem dX10_rings_109 : decode cX10_rings 109 = .ok (.iadd, 1) := by decide +kernel
theorem dX10_rings_110 : decode cX10_rings 110 = .ok (.istore_n 2, 1) := by decide +kernel
theorem dX10_rings_111 : decode cX10_rings 111 = .ok (.iinc 3 1, 3) := by decide +kernel
theorem dX10_rings_114 : decode cX10_rings 114 = .ok (.goto (-95), 3) := by decide +kernel
theorem dX10_rings_117 : decode cX10_rings 117 = .ok (.iload_n 2, 1) := by decide +kernel
theorem dX10_rings_118 : decode cX10_rings 118 = .ok (.ireturn, 1) := by decide +kernel
theorem dX10_mask_0 : decode cX10_mask 0 = .ok (.aload_n 0, 1) := by decide +kernel
theorem dX10_mask_1 : decode cX10_mask 1 = .ok (.iload_n 1, 1) := by decide +kernel
theorem dX10_mask_2 : decode cX10_mask 2 = .ok (.iload_n 2, 1) := by decide +kernel
theorem dX10_mask_3 : decode cX10_mask 3 = .ok (.iload_n 3, 1) := by decide +kernel
theorem dX10_mask_4 : decode cX10_mask 4 = .ok (.invokevirtual 184, 3) := by decide +kernel
theorem dX10_mask_7 : decode cX10_mask 7 = .ok (.istore 5, 2) := by decide +kernel
theorem dX10_mask_9 : decode cX10_mask 9 = .ok (.iload 5, 2) := by decide +kernel
theorem dX10_mask_11 : decode cX10_mask 11 = .ok (.ifCond .ne 29, 3) := by decide +kernel
theorem dX10_mask_14 : decode cX10_mask 14 = .ok (.iload_n 3, 1) := by decide +kernel
theorem dX10_mask_15 : decode cX10_mask 15 = .ok (.iload_n 2, 1) := by decide +kernel
theorem dX10_mask_16 : decode cX10_mask 16 = .ok (.invokestatic 160, 3) := by decide +kernel
theorem dX10_mask_19 : decode cX10_mask 19 = .ok (.ifCond .eq 16, 3) := by decide +kernel
theorem dX10_mask_22 : decode cX10_mask 22 = .ok (.iload 4, 2) := by decide +kernel
theorem dX10_mask_24 : decode cX10_mask 24 = .ok (.i2l, 1) := by decide +kernel
theorem dX10_mask_25 : decode cX10_mask 25 = .ok (.lconst 1, 1) := by decide +kernel
theorem dX10_mask_26 : decode cX10_mask 26 = .ok (.ldc2_w 211, 3) := by decide +kernel
theorem dX10_mask_29 : decode cX10_mask 29 = .ok (.invokestatic 66, 3) := by decide +kernel
theorem dX10_mask_32 : decode cX10_mask 32 = .ok (.ifCond .ne 8, 3) := by decide +kernel
theorem dX10_mask_35 : decode cX10_mask 35 = .ok (.ldc 76, 2) := by decide +kernel
theorem dX10_mask_37 : decode cX10_mask 37 = .ok (.goto 5, 3) := by decide +kernel
theorem dX10_mask_40 : decode cX10_mask 40 = .ok (.iload 5, 2) := by decide +kernel
theorem dX10_mask_42 : decode cX10_mask 42 = .ok (.istore 5, 2) := by decide +kernel
theorem dX10_mask_44 : decode cX10_mask 44 = .ok (.iload 5, 2) := by decide +kernel
theorem dX10_mask_46 : decode cX10_mask 46 = .ok (.ifCond .eq 8, 3) := by decide +kernel
theorem dX10_mask_49 : decode cX10_mask 49 = .ok (.iload 5, 2) := by decide +kernel
theorem dX10_mask_51 : decode cX10_mask 51 = .ok (.goto 9, 3) := by decide +kernel
theorem dX10_mask_54 : decode cX10_mask 54 = .ok (.aload_n 0, 1) := by decide +kernel
theorem dX10_mask_55 : decode cX10_mask 55 = .ok (.iload_n 1, 1) := by decide +kernel
theorem dX10_mask_56 : decode cX10_mask 56 = .ok (.iload_n 2, 1) := by decide +kernel
theorem dX10_mask_57 : decode cX10_mask 57 = .ok (.invokevirtual 188, 3) := by decide +kernel
theorem dX10_mask_60 : decode cX10_mask 60 = .ok (.istore 5, 2) := by decide +kernel
theorem dX10_mask_62 : decode cX10_mask 62 = .ok (.iload 5, 2) := by decide +kernel
theorem dX10_mask_64 : decode cX10_mask 64 = .ok (.ifCond .eq 6, 3) := by decide +kernel
theorem dX10_mask_67 : decode cX10_mask 67 = .ok (.iload 5, 2) := by decide +kernel
theorem dX10_mask_69 : decode cX10_mask 69 = .ok (.ireturn, 1) := by decide +kernel
theorem dX10_mask_70 : decode cX10_mask 70 = .ok (.aload_n 0, 1) := by decide +kernel
theorem dX10_mask_71 : decode cX10_mask 71 = .ok (.getfield 13, 3) := by decide +kernel
theorem dX10_mask_74 : decode cX10_mask 74 = .ok (.iload_n 2, 1) := by decide +kernel
theorem dX10_mask_75 : decode cX10_mask 75 = .ok (.iaload, 1) := by decide +kernel
theorem dX10_mask_76 : decode cX10_mask 76 = .ok (.istore 6, 2) := by decide +kernel
theorem dX10_mask_78 : decode cX10_mask 78 = .ok (.iconst (-1), 1) := by decide +kernel
theorem dX10_mask_79 : decode cX10_mask 79 = .ok (.istore 7, 2) := by decide +kernel
theorem dX10_mask_81 : decode cX10_mask 81 = .ok (.iconst 0, 1) := by decide +kernel
theorem dX10_mask_82 : decode cX10_mask 82 = .ok (.istore 8, 2) := by decide +kernel
theorem dX10_mask_84 : decode cX10_mask 84 = .ok (.iload 8, 2) := by decide +kernel
theorem dX10_mask_86 : decode cX10_mask 86 = .ok (.sipush 256, 3) := by decide +kernel
theorem dX10_mask_89 : decode cX10_mask 89 = .ok (.if_icmp .ge 64, 3) := by decide +kernel
theorem dX10_mask_92 : decode cX10_mask 92 = .ok (.iload 7, 2) := by decide +kernel
theorem dX10_mask_94 : decode cX10_mask 94 = .ok (.ifCond .lt 16, 3) := by decide +kernel
theorem dX10_mask_97 : decode cX10_mask 97 = .ok (.iload 8, 2) := by decide +kernel
theorem dX10_mask_99 : decode cX10_mask 99 = .ok (.invokestatic 140, 3) := by decide +kernel
theorem dX10_mask_102 : decode cX10_mask 102 = .ok (.iload 7, 2) := by decide +kernel
theorem dX10_mask_104 : decode cX10_mask 104 = .ok (.invokestatic 140, 3) := by decide +kernel
theorem dX10_mask_107 : decode cX10_mask 107 = .ok (.if_icmp .ge 40, 3) := by decide +kernel
theorem dX10_mask_110 : decode cX10_mask 110 = .ok (.aload_n 0, 1) := by decide +kernel
theorem dX10_mask_111 : decode cX10_mask 111 = .ok (.getfield 13, 3) := by decide +kernel
theorem dX10_mask_114 : decode cX10_mask 114 = .ok (.iload_n 2, 1) := by decide +kernel
theorem dX10_mask_115 : decode cX10_mask 115 = .ok (.iload 6, 2) := by decide +kernel
theorem dX10_mask_117 : decode cX10_mask 117 = .ok (.iload 8, 2) := by decide +kernel
theorem dX10_mask_119 : decode cX10_mask 119 = .ok (.ixor, 1) := by decide +kernel
theorem dX10_mask_120 : decode cX10_mask 120 = .ok (.iastore, 1) := by decide +kernel
theorem dX10_mask_121 : decode cX10_mask 121 = .ok (.aload_n 0, 1) := by decide +kernel
theorem dX10_mask_122 : decode cX10_mask 122 = .ok (.aload_n 0, 1) := by decide +kernel
theorem dX10_mask_123 : decode cX10_mask 123 = .ok (.iload_n 1, 1) := by decide +kernel
theorem dX10_mask_124 : decode cX10_mask 124 = .ok (.iload_n 2, 1) := by decide +kernel
theorem dX10_mask_125 : decode cX10_mask 125 = .ok (.invokevirtual 133, 3) := by decide +kernel
theorem dX10_mask_128 : decode cX10_mask 128 = .ok (.iload_n 2, 1) := by decide +kernel
theorem dX10_mask_129 : decode cX10_mask 129 = .ok (.iload_n 3, 1) := by decide +kernel
theorem dX10_mask_130 : decode cX10_mask 130 = .ok (.invokevirtual 206, 3) := by decide +kernel
theorem dX10_mask_133 : decode cX10_mask 133 = .ok (.iload 4, 2) := by decide +kernel
theorem dX10_mask_135 : decode cX10_mask 135 = .ok (.if_icmp .lt 8, 3) := by decide +kernel
theorem dX10_mask_138 : decode cX10_mask 138 = .ok (.iload 8, 2) := by decide +kernel
theorem dX10_mask_140 : decode cX10_mask 140 = .ok (.goto 5, 3) := by decide +kernel
theorem dX10_mask_143 : decode cX10_mask 143 = .ok (.iload 7, 2) := by decide +kernel
theorem dX10_mask_145 : decode cX10_mask 145 = .ok (.istore 7, 2) := by decide +kernel
theorem dX10_mask_147 : decode cX10_mask 147 = .ok (.iinc 8 1, 3) := by decide +kernel
theorem dX10_mask_150 : decode cX10_mask 150 = .ok (.goto (-66), 3) := by decide +kernel
theorem dX10_mask_153 : decode cX10_mask 153 = .ok (.aload_n 0, 1) := by decide +kernel
theorem dX10_mask_154 : decode cX10_mask 154 = .ok (.getfield 13, 3) := by decide +kernel
theorem dX10_mask_157 : decode cX10_mask 157 = .ok (.iload_n 2, 1) := by decide +kernel
theorem dX10_mask_158 : decode cX10_mask 158 = .ok (.iload 6, 2) := by decide +kernel
theorem dX10_mask_160 : decode cX10_mask 160 = .ok (.iastore, 1) := by decide +kernel
theorem dX10_mask_161 : decode cX10_mask 161 = .ok (.iload 7, 2) := by decide +kernel
theorem dX10_mask_163 : decode cX10_mask 163 = .ok (.ireturn, 1) := by decide +kernel
theorem dX10_spoil_0 : decode cX10_spoil 0 = .ok (.aload_n 0, 1) := by decide +kernel
theorem dX10_spoil_1 : decode cX10_spoil 1 = .ok (.iload 4, 2) := by decide +kernel
theorem dX10_spoil_3 : decode cX10_spoil 3 = .ok (.invokevirtual 70, 3) := by decide +kernel
theorem dX10_spoil_6 : decode cX10_spoil 6 = .ok (.ifCond .eq 19, 3) := by decide +kernel
theorem dX10_spoil_9 : decode cX10_spoil 9 = .ok (.iload 4, 2) := by decide +kernel
theorem dX10_spoil_11 : decode cX10_spoil 11 = .ok (.iload_n 2, 1) := by decide +kernel
theorem dX10_spoil_12 : decode cX10_spoil 12 = .ok (.if_icmp .eq 13, 3) := by decide +kernel
theorem dX10_spoil_15 : decode cX10_spoil 15 = .ok (.aload_n 0, 1) := by decide +kernel
theorem dX10_spoil_16 : decode cX10_spoil 16 = .ok (.iload_n 1, 1) := by decide +kernel
theorem dX10_spoil_17 : decode cX10_spoil 17 = .ok (.iload_n 2, 1) := by decide +kernel
theorem dX10_spoil_18 : decode cX10_spoil 18 = .ok (.iload_n 3, 1) := by decide +kernel
theorem dX10_spoil_19 : decode cX10_spoil 19 = .ok (.invokevirtual 184, 3) := by decide +kernel
theorem dX10_spoil_22 : decode cX10_spoil 22 = .ok (.goto 5, 3) := by decide +kernel
theorem dX10_spoil_25 : decode cX10_spoil 25 = .ok (.ldc 152, 2) := by decide +kernel
theorem dX10_spoil_27 : decode cX10_spoil 27 = .ok (.istore 5, 2) := by decide +kernel
theorem dX10_spoil_29 : decode cX10_spoil 29 = .ok (.iload 5, 2) := by decide +kernel
theorem dX10_spoil_31 : decode cX10_spoil 31 = .ok (.ifCond .ne 17, 3) := by decide +kernel
theorem dX10_spoil_34 : decode cX10_spoil 34 = .ok (.iload_n 3, 1) := by decide +kernel
theorem dX10_spoil_35 : decode cX10_spoil 35 = .ok (.iload 4, 2) := by decide +kernel
theorem dX10_spoil_37 : decode cX10_spoil 37 = .ok (.invokestatic 160, 3) := by decide +kernel
theorem dX10_spoil_40 : decode cX10_spoil 40 = .ok (.ifCond .ne 8, 3) := by decide +kernel
theorem dX10_spoil_43 : decode cX10_spoil 43 = .ok (.ldc 76, 2) := by decide +kernel
theorem dX10_spoil_45 : decode cX10_spoil 45 = .ok (.goto 5, 3) := by decide +kernel
theorem dX10_spoil_48 : decode cX10_spoil 48 = .ok (.iload 5, 2) := by decide +kernel
theorem dX10_spoil_50 : decode cX10_spoil 50 = .ok (.istore 5, 2) := by decide +kernel
theorem dX10_spoil_52 : decode cX10_spoil 52 = .ok (.iload 5, 2) := by decide +kernel
theorem dX10_spoil_54 : decode cX10_spoil 54 = .ok (.ifCond .eq 8, 3) := by decide +kernel
theorem dX10_spoil_57 : decode cX10_spoil 57 = .ok (.iload 5, 2) := by decide +kernel
theorem dX10_spoil_59 : decode cX10_spoil 59 = .ok (.goto 9, 3) := by decide +kernel
theorem dX10_spoil_62 : decode cX10_spoil 62 = .ok (.aload_n 0, 1) := by decide +kernel
theorem dX10_spoil_63 : decode cX10_spoil 63 = .ok (.iload_n 1, 1) := by decide +kernel
theorem dX10_spoil_64 : decode cX10_spoil 64 = .ok (.iload_n 2, 1) := by decide +kernel
theorem dX10_spoil_65 : decode cX10_spoil 65 = .ok (.invokevirtual 188, 3) := by decide +kernel
theorem dX10_spoil_68 : decode cX10_spoil 68 = .ok (.istore 5, 2) := by decide +kernel
theorem dX10_spoil_70 : decode cX10_spoil 70 = .ok (.iload 5, 2) := by decide +kernel
theorem dX10_spoil_72 : decode cX10_spoil 72 = .ok (.ifCond .eq 6, 3) := by decide +kernel
theorem dX10_spoil_75 : decode cX10_spoil 75 = .ok (.iload 5, 2) := by decide +kernel
theorem dX10_spoil_77 : decode cX10_spoil 77 = .ok (.ireturn, 1) := by decide +kernel
theorem dX10_spoil_78 : decode cX10_spoil 78 = .ok (.aload_n 0, 1) := by decide +kernel
theorem dX10_spoil_79 : decode cX10_spoil 79 = .ok (.getfield 13, 3) := by decide +kernel
theorem dX10_spoil_82 : decode cX10_spoil 82 = .ok (.iload 4, 2) := by decide +kernel
theorem dX10_spoil_84 : decode cX10_spoil 84 = .ok (.iaload, 1) := by decide +kernel
theorem dX10_spoil_85 : decode cX10_spoil 85 = .ok (.istore 6, 2) := by decide +kernel
theorem dX10_spoil_87 : decode cX10_spoil 87 = .ok (.iconst (-1), 1) := by decide +kernel
theorem dX10_spoil_88 : decode cX10_spoil 88 = .ok (.istore 7, 2) := by decide +kernel
theorem dX10_spoil_90 : decode cX10_spoil 90 = .ok (.iconst 0, 1) := by decide +kernel
theorem dX10_spoil_91 : decode cX10_spoil 91 = .ok (.istore 8, 2) := by decide +kernel
theorem dX10_spoil_93 : decode cX10_spoil 93 = .ok (.iload 8, 2) := by decide +kernel
theorem dX10_spoil_95 : decode cX10_spoil 95 = .ok (.sipush 256, 3) := by decide +kernel
theorem dX10_spoil_98 : decode cX10_spoil 98 = .ok (.if_icmp .ge 64, 3) := by decide +kernel
theorem dX10_spoil_101 : decode cX10_spoil 101 = .ok (.iload 7, 2) := by decide +kernel
theorem dX10_spoil_103 : decode cX10_spoil 103 = .ok (.ifCond .lt 16, 3) := by decide +kernel
theorem dX10_spoil_106 : decode cX10_spoil 106 = .ok (.iload 8, 2) := by decide +kernel
theorem dX10_spoil_108 : decode cX10_spoil 108 = .ok (.invokestatic 140, 3) := by decide +kernel
theorem dX10_spoil_111 : decode cX10_spoil 111 = .ok (.iload 7, 2) := by decide +kernel
theorem dX10_spoil_113 : decode cX10_spoil 113 = .ok (.invokestatic 140, 3) := by decide +kernel
theorem dX10_spoil_116 : decode cX10_spoil 116 = .ok (.if_icmp .ge 40, 3) := by decide +kernel
theorem dX10_spoil_119 : decode cX10_spoil 119 = .ok (.aload_n 0, 1) := by decide +kernel
theorem dX10_spoil_120 : decode cX10_spoil 120 = .ok (.getfield 13, 3) := by decide +kernel
theorem dX10_spoil_123 : decode cX10_spoil 123 = .ok (.iload 4, 2) := by decide +kernel
theorem dX10_spoil_125 : decode cX10_spoil 125 = .ok (.iload 6, 2) := by decide +kernel
theorem dX10_spoil_127 : decode cX10_spoil 127 = .ok (.iload 8, 2) := by decide +kernel
theorem dX10_spoil_129 : decode cX10_spoil 129 = .ok (.ixor, 1) := by decide +kernel
theorem dX10_spoil_130 : decode cX10_spoil 130 = .ok (.iastore, 1) := by decide +kernel
theorem dX10_spoil_131 : decode cX10_spoil 131 = .ok (.aload_n 0, 1) := by decide +kernel
theorem dX10_spoil_132 : decode cX10_spoil 132 = .ok (.aload_n 0, 1) := by decide +kernel
theorem dX10_spoil_133 : decode cX10_spoil 133 = .ok (.iload_n 1, 1) := by decide +kernel
theorem dX10_spoil_134 : decode cX10_spoil 134 = .ok (.iload_n 2, 1) := by decide +kernel
theorem dX10_spoil_135 : decode cX10_spoil 135 = .ok (.invokevirtual 133, 3) := by decide +kernel
theorem dX10_spoil_138 : decode cX10_spoil 138 = .ok (.iload_n 3, 1) := by decide +kernel
theorem dX10_spoil_139 : decode cX10_spoil 139 = .ok (.invokevirtual 166, 3) := by decide +kernel
theorem dX10_spoil_142 : decode cX10_spoil 142 = .ok (.iload 4, 2) := by decide +kernel
theorem dX10_spoil_144 : decode cX10_spoil 144 = .ok (.if_icmp .ne 8, 3) := by decide +kernel
theorem dX10_spoil_147 : decode cX10_spoil 147 = .ok (.iload 8, 2) := by decide +kernel
theorem dX10_spoil_149 : decode cX10_spoil 149 = .ok (.goto 5, 3) := by decide +kernel
theorem dX10_spoil_152 : decode cX10_spoil 152 = .ok (.iload 7, 2) := by decide +kernel
theorem dX10_spoil_154 : decode cX10_spoil 154 = .ok (.istore 7, 2) := by decide +kernel
theorem dX10_spoil_156 : decode cX10_spoil 156 = .ok (.iinc 8 1, 3) := by decide +kernel
theorem dX10_spoil_159 : decode cX10_spoil 159 = .ok (.goto (-66), 3) := by decide +kernel
theorem dX10_spoil_162 : decode cX10_spoil 162 = .ok (.aload_n 0, 1) := by decide +kernel
theorem dX10_spoil_163 : decode cX10_spoil 163 = .ok (.getfield 13, 3) := by decide +kernel
theorem dX10_spoil_166 : decode cX10_spoil 166 = .ok (.iload 4, 2) := by decide +kernel
theorem dX10_spoil_168 : decode cX10_spoil 168 = .ok (.iload 6, 2) := by decide +kernel
theorem dX10_spoil_170 : decode cX10_spoil 170 = .ok (.iastore, 1) := by decide +kernel
theorem dX10_spoil_171 : decode cX10_spoil 171 = .ok (.iload 7, 2) := by decide +kernel
theorem dX10_spoil_173 : decode cX10_spoil 173 = .ok (.ireturn, 1) := by decide +kernel
theorem dX10_impostor_0 : decode cX10_impostor 0 = .ok (.aload_n 0, 1) := by decide +kernel
theorem dX10_impostor_1 : decode cX10_impostor 1 = .ok (.iload_n 1, 1) := by decide +kernel
theorem dX10_impostor_2 : decode cX10_impostor 2 = .ok (.iload_n 2, 1) := by decide +kernel
theorem dX10_impostor_3 : decode cX10_impostor 3 = .ok (.invokevirtual 156, 3) := by decide +kernel
theorem dX10_impostor_6 : decode cX10_impostor 6 = .ok (.ifCond .eq 16, 3) := by decide +kernel
theorem dX10_impostor_9 : decode cX10_impostor 9 = .ok (.aload_n 0, 1) := by decide +kernel
theorem dX10_impostor_10 : decode cX10_impostor 10 = .ok (.iload_n 3, 1) := by decide +kernel
theorem dX10_impostor_11 : decode cX10_impostor 11 = .ok (.invokevirtual 70, 3) := by decide +kernel
theorem dX10_impostor_14 : decode cX10_impostor 14 = .ok (.ifCond .eq 8, 3) := by decide +kernel
theorem dX10_impostor_17 : decode cX10_impostor 17 = .ok (.iload_n 3, 1) := by decide +kernel
theorem dX10_impostor_18 : decode cX10_impostor 18 = .ok (.iload_n 1, 1) := by decide +kernel
theorem dX10_impostor_19 : decode cX10_impostor 19 = .ok (.if_icmp .ne 6, 3) := by decide +kernel
theorem dX10_impostor_22 : decode cX10_impostor 22 = .ok (.ldc 152, 2) := by decide +kernel
theorem dX10_impostor_24 : decode cX10_impostor 24 = .ok (.ireturn, 1) := by decide +kernel
theorem dX10_impostor_25 : decode cX10_impostor 25 = .ok (.iload 4, 2) := by decide +kernel
theorem dX10_impostor_27 : decode cX10_impostor 27 = .ok (.i2l, 1) := by decide +kernel
theorem dX10_impostor_28 : decode cX10_impostor 28 = .ok (.ldc2_w 209, 3) := by decide +kernel
theorem dX10_impostor_31 : decode cX10_impostor 31 = .ok (.ldc2_w 211, 3) := by decide +kernel
theorem dX10_impostor_34 : decode cX10_impostor 34 = .ok (.invokestatic 66, 3) := by decide +kernel
theorem dX10_impostor_37 : decode cX10_impostor 37 = .ok (.ifCond .eq 14, 3) := by decide +kernel
theorem dX10_impostor_40 : decode cX10_impostor 40 = .ok (.iload 5, 2) := by decide +kernel
theorem dX10_impostor_42 : decode cX10_impostor 42 = .ok (.i2l, 1) := by decide +kernel
theorem dX10_impostor_43 : decode cX10_impostor 43 = .ok (.lconst 0, 1) := by decide +kernel
theorem dX10_impostor_44 : decode cX10_impostor 44 = .ok (.lconst 1, 1) := by decide +kernel
theorem dX10_impostor_45 : decode cX10_impostor 45 = .ok (.invokestatic 66, 3) := by decide +kernel
theorem dX10_impostor_48 : decode cX10_impostor 48 = .ok (.ifCond .ne 6, 3) := by decide +kernel
theorem dX10_impostor_51 : decode cX10_impostor 51 = .ok (.ldc 76, 2) := by decide +kernel
theorem dX10_impostor_53 : decode cX10_impostor 53 = .ok (.ireturn, 1) := by decide +kernel
theorem dX10_impostor_54 : decode cX10_impostor 54 = .ok (.aload_n 0, 1) := by decide +kernel
theorem dX10_impostor_55 : decode cX10_impostor 55 = .ok (.iload_n 1, 1) := by decide +kernel
theorem dX10_impostor_56 : decode cX10_impostor 56 = .ok (.iload_n 2, 1) := by decide +kernel
theorem dX10_impostor_57 : decode cX10_impostor 57 = .ok (.invokevirtual 133, 3) := by decide +kernel
theorem dX10_impostor_60 : decode cX10_impostor 60 = .ok (.ifCond .ge 6, 3) := by decide +kernel
theorem dX10_impostor_63 : decode cX10_impostor 63 = .ok (.ldc 171, 2) := by decide +kernel
theorem dX10_impostor_65 : decode cX10_impostor 65 = .ok (.ireturn, 1) := by decide +kernel
theorem dX10_impostor_66 : decode cX10_impostor 66 = .ok (.iconst 0, 1) := by decide +kernel
theorem dX10_impostor_67 : decode cX10_impostor 67 = .ok (.istore 6, 2) := by decide +kernel
theorem dX10_impostor_69 : decode cX10_impostor 69 = .ok (.iconst (-1), 1) := by decide +kernel
theorem dX10_impostor_70 : decode cX10_impostor 70 = .ok (.istore 7, 2) := by decide +kernel
theorem dX10_impostor_72 : decode cX10_impostor 72 = .ok (.iconst 0, 1) := by decide +kernel
theorem dX10_impostor_73 : decode cX10_impostor 73 = .ok (.istore 8, 2) := by decide +kernel
theorem dX10_impostor_75 : decode cX10_impostor 75 = .ok (.iload 8, 2) := by decide +kernel
theorem dX10_impostor_77 : decode cX10_impostor 77 = .ok (.iconst 1, 1) := by decide +kernel
theorem dX10_impostor_78 : decode cX10_impostor 78 = .ok (.aload_n 0, 1) := by decide +kernel
theorem dX10_impostor_79 : decode cX10_impostor 79 = .ok (.getfield 63, 3) := by decide +kernel
theorem dX10_impostor_82 : decode cX10_impostor 82 = .ok (.ishl, 1) := by decide +kernel
theorem dX10_impostor_83 : decode cX10_impostor 83 = .ok (.if_icmp .ge 70, 3) := by decide +kernel
theorem dX10_impostor_86 : decode cX10_impostor 86 = .ok (.iload 8, 2) := by decide +kernel
theorem dX10_impostor_88 : decode cX10_impostor 88 = .ok (.invokestatic 140, 3) := by decide +kernel
theorem dX10_impostor_91 : decode cX10_impostor 91 = .ok (.iload 4, 2) := by decide +kernel
theorem dX10_impostor_93 : decode cX10_impostor 93 = .ok (.if_icmp .ne 54, 3) := by decide +kernel
theorem dX10_impostor_96 : decode cX10_impostor 96 = .ok (.iload 8, 2) := by decide +kernel
theorem dX10_impostor_98 : decode cX10_impostor 98 = .ok (.iload_n 3, 1) := by decide +kernel
theorem dX10_impostor_99 : decode cX10_impostor 99 = .ok (.invokestatic 160, 3) := by decide +kernel
theorem dX10_impostor_102 : decode cX10_impostor 102 = .ok (.ifCond .eq 45, 3) := by decide +kernel
theorem dX10_impostor_105 : decode cX10_impostor 105 = .ok (.iload 8, 2) := by decide +kernel
theorem dX10_impostor_107 : decode cX10_impostor 107 = .ok (.iload_n 1, 1) := by decide +kernel
theorem dX10_impostor_108 : decode cX10_impostor 108 = .ok (.invokestatic 160, 3) := by decide +kernel
theorem dX10_impostor_111 : decode cX10_impostor 111 = .ok (.ifCond .ne 36, 3) := by decide +kernel
theorem dX10_impostor_114 : decode cX10_impostor 114 = .ok (.aload_n 0, 1) := by decide +kernel
theorem dX10_impostor_115 : decode cX10_impostor 115 = .ok (.aload_n 0, 1) := by decide +kernel
theorem dX10_impostor_116 : decode cX10_impostor 116 = .ok (.iload_n 1, 1) := by decide +kernel
theorem dX10_impostor_117 : decode cX10_impostor 117 = .ok (.iload_n 2, 1) := by decide +kernel
theorem dX10_impostor_118 : decode cX10_impostor 118 = .ok (.invokevirtual 133, 3) := by decide +kernel
theorem dX10_impostor_121 : decode cX10_impostor 121 = .ok (.iload 8, 2) := by decide +kernel
theorem dX10_impostor_123 : decode cX10_impostor 123 = .ok (.invokevirtual 166, 3) := by decide +kernel
theorem dX10_impostor_126 : decode cX10_impostor 126 = .ok (.iload_n 3, 1) := by decide +kernel
theorem dX10_impostor_127 : decode cX10_impostor 127 = .ok (.if_icmp .ne 20, 3) := by decide +kernel
theorem dX10_impostor_130 : decode cX10_impostor 130 = .ok (.iload 6, 2) := by decide +kernel
theorem dX10_impostor_132 : decode cX10_impostor 132 = .ok (.ifCond .ne 8, 3) := by decide +kernel
theorem dX10_impostor_135 : decode cX10_impostor 135 = .ok (.iload 8, 2) := by decide +kernel
theorem dX10_impostor_137 : decode cX10_impostor 137 = .ok (.goto 5, 3) := by decide +kernel
theorem dX10_impostor_140 : decode cX10_impostor 140 = .ok (.iload 7, 2) := by decide +kernel
theorem dX10_impostor_142 : decode cX10_impostor 142 = .ok (.istore 7, 2) := by decide +kernel
theorem dX10_impostor_144 : decode cX10_impostor 144 = .ok (.iinc 6 1, 3) := by decide +kernel
theorem dX10_impostor_147 : decode cX10_impostor 147 = .ok (.iinc 8 1, 3) := by decide +kernel
theorem dX10_impostor_150 : decode cX10_impostor 150 = .ok (.goto (-75), 3) := by decide +kernel
theorem dX10_impostor_153 : decode cX10_impostor 153 = .ok (.iload 5, 2) := by decide +kernel
theorem dX10_impostor_155 : decode cX10_impostor 155 = .ok (.ifCond .ne 8, 3) := by decide +kernel
theorem dX10_impostor_158 : decode cX10_impostor 158 = .ok (.iload 6, 2) := by decide +kernel
theorem dX10_impostor_160 : decode cX10_impostor 160 = .ok (.goto 5, 3) := by decide +kernel
theorem dX10_impostor_163 : decode cX10_impostor 163 = .ok (.iload 7, 2) := by decide +kernel
theorem dX10_impostor_165 : decode cX10_impostor 165 = .ok (.ireturn, 1) := by decide +kernel
theorem dX10_lost_0 : decode cX10_lost 0 = .ok (.iconst 0, 1) := by decide +kernel
theorem dX10_lost_1 : decode cX10_lost 1 = .ok (.istore_n 2, 1) := by decide +kernel
theorem dX10_lost_2 : decode cX10_lost 2 = .ok (.iconst 0, 1) := by decide +kernel
theorem dX10_lost_3 : decode cX10_lost 3 = .ok (.istore_n 3, 1) := by decide +kernel
theorem dX10_lost_4 : decode cX10_lost 4 = .ok (.iload_n 3, 1) := by decide +kernel
theorem dX10_lost_5 : decode cX10_lost 5 = .ok (.bipush 64, 2) := by decide +kernel
theorem dX10_lost_7 : decode cX10_lost 7 = .ok (.if_icmp .ge 64, 3) := by decide +kernel
theorem dX10_lost_10 : decode cX10_lost 10 = .ok (.aload_n 0, 1) := by decide +kernel
theorem dX10_lost_11 : decode cX10_lost 11 = .ok (.getfield 13, 3) := by decide +kernel
theorem dX10_lost_14 : decode cX10_lost 14 = .ok (.bipush 16, 2) := by decide +kernel
theorem dX10_lost_16 : decode cX10_lost 16 = .ok (.iload_n 3, 1) := by decide +kernel
theorem dX10_lost_17 : decode cX10_lost 17 = .ok (.iadd, 1) := by decide +kernel
theorem dX10_lost_18 : decode cX10_lost 18 = .ok (.iaload, 1) := by decide +kernel
theorem dX10_lost_19 : decode cX10_lost 19 = .ok (.istore 4, 2) := by decide +kernel
theorem dX10_lost_21 : decode cX10_lost 21 = .ok (.iload 4, 2) := by decide +kernel
theorem dX10_lost_23 : decode cX10_lost 23 = .ok (.ifCond .lt 42, 3) := by decide +kernel
theorem dX10_lost_26 : decode cX10_lost 26 = .ok (.iload 4, 2) := by decide +kernel
theorem dX10_lost_28 : decode cX10_lost 28 = .ok (.aload_n 0, 1) := by decide +kernel
theorem dX10_lost_29 : decode cX10_lost 29 = .ok (.getfield 13, 3) := by decide +kernel
theorem dX10_lost_32 : decode cX10_lost 32 = .ok (.iload_n 3, 1) := by decide +kernel
theorem dX10_lost_33 : decode cX10_lost 33 = .ok (.bipush 8, 2) := by decide +kernel
theorem dX10_lost_35 : decode cX10_lost 35 = .ok (.irem, 1) := by decide +kernel
theorem dX10_lost_36 : decode cX10_lost 36 = .ok (.iaload, 1) := by decide +kernel
theorem dX10_lost_37 : decode cX10_lost 37 = .ok (.invokestatic 163, 3) := by decide +kernel
theorem dX10_lost_40 : decode cX10_lost 40 = .ok (.iconst 3, 1) := by decide +kernel
theorem dX10_lost_41 : decode cX10_lost 41 = .ok (.if_icmp .lt 24, 3) := by decide +kernel
theorem dX10_lost_44 : decode cX10_lost 44 = .ok (.iload_n 2, 1) := by decide +kernel
theorem dX10_lost_45 : decode cX10_lost 45 = .ok (.iload_n 1, 1) := by decide +kernel
theorem dX10_lost_46 : decode cX10_lost 46 = .ok (.if_icmp .ne 16, 3) := by decide +kernel
theorem dX10_lost_49 : decode cX10_lost 49 = .ok (.bipush 10, 2) := by decide +kernel
theorem dX10_lost_51 : decode cX10_lost 51 = .ok (.iload_n 3, 1) := by decide +kernel
theorem dX10_lost_52 : decode cX10_lost 52 = .ok (.bipush 8, 2) := by decide +kernel
theorem dX10_lost_54 : decode cX10_lost 54 = .ok (.idiv, 1) := by decide +kernel
theorem dX10_lost_55 : decode cX10_lost 55 = .ok (.imul, 1) := by decide +kernel
theorem dX10_lost_56 : decode cX10_lost 56 = .ok (.iload_n 3, 1) := by decide +kernel
theorem dX10_lost_57 : decode cX10_lost 57 = .ok (.bipush 8, 2) := by decide +kernel
theorem dX10_lost_59 : decode cX10_lost 59 = .ok (.irem, 1) := by decide +kernel
theorem dX10_lost_60 : decode cX10_lost 60 = .ok (.iadd, 1) := by decide +kernel
theorem dX10_lost_61 : decode cX10_lost 61 = .ok (.ireturn, 1) := by decide +kernel
theorem dX10_lost_62 : decode cX10_lost 62 = .ok (.iinc 2 1, 3) := by decide +kernel
theorem dX10_lost_65 : decode cX10_lost 65 = .ok (.iinc 3 1, 3) := by decide +kernel
theorem dX10_lost_68 : decode cX10_lost 68 = .ok (.goto (-64), 3) := by decide +kernel
theorem dX10_lost_71 : decode cX10_lost 71 = .ok (.iload_n 1, 1) := by decide +kernel
theorem dX10_lost_72 : decode cX10_lost 72 = .ok (.iconst (-1), 1) := by decide +kernel
theorem dX10_lost_73 : decode cX10_lost 73 = .ok (.if_icmp .ne 7, 3) := by decide +kernel
theorem dX10_lost_76 : decode cX10_lost 76 = .ok (.iload_n 2, 1) := by decide +kernel
theorem dX10_lost_77 : decode cX10_lost 77 = .ok (.goto 4, 3) := by decide +kernel
theorem dX10_lost_80 : decode cX10_lost 80 = .ok (.iconst (-1), 1) := by decide +kernel
theorem dX10_lost_81 : decode cX10_lost 81 = .ok (.ireturn, 1) := by decide +kernel
theorem dX10_alike_0 : decode cX10_alike 0 = .ok (.iload_n 1, 1) := by decide +kernel
theorem dX10_alike_1 : decode cX10_alike 1 = .ok (.i2l, 1) := by decide +kernel
theorem dX10_alike_2 : decode cX10_alike 2 = .ok (.lconst 0, 1) := by decide +kernel
theorem dX10_alike_3 : decode cX10_alike 3 = .ok (.ldc2_w 169, 3) := by decide +kernel
theorem dX10_alike_6 : decode cX10_alike 6 = .ok (.invokestatic 66, 3) := by decide +kernel
theorem dX10_alike_9 : decode cX10_alike 9 = .ok (.ifCond .ne 6, 3) := by decide +kernel
theorem dX10_alike_12 : decode cX10_alike 12 = .ok (.ldc 76, 2) := by decide +kernel
theorem dX10_alike_14 : decode cX10_alike 14 = .ok (.ireturn, 1) := by decide +kernel
theorem dX10_alike_15 : decode cX10_alike 15 = .ok (.iconst 0, 1) := by decide +kernel
theorem dX10_alike_16 : decode cX10_alike 16 = .ok (.istore_n 2, 1) := by decide +kernel
theorem dX10_alike_17 : decode cX10_alike 17 = .ok (.iload_n 2, 1) := by decide +kernel
theorem dX10_alike_18 : decode cX10_alike 18 = .ok (.aload_n 0, 1) := by decide +kernel
theorem dX10_alike_19 : decode cX10_alike 19 = .ok (.getfield 63, 3) := by decide +kernel
theorem dX10_alike_22 : decode cX10_alike 22 = .ok (.if_icmp .ge 75, 3) := by decide +kernel
theorem dX10_alike_25 : decode cX10_alike 25 = .ok (.aload_n 0, 1) := by decide +kernel
theorem dX10_alike_26 : decode cX10_alike 26 = .ok (.getfield 36, 3) := by decide +kernel
theorem dX10_alike_29 : decode cX10_alike 29 = .ok (.iload_n 2, 1) := by decide +kernel
theorem dX10_alike_30 : decode cX10_alike 30 = .ok (.aload_n 0, 1) := by decide +kernel
theorem dX10_alike_31 : decode cX10_alike 31 = .ok (.getfield 13, 3) := by decide +kernel
theorem dX10_alike_34 : decode cX10_alike 34 = .ok (.iload_n 2, 1) := by decide +kernel
theorem dX10_alike_35 : decode cX10_alike 35 = .ok (.iaload, 1) := by decide +kernel
theorem dX10_alike_36 : decode cX10_alike 36 = .ok (.iastore, 1) := by decide +kernel
theorem dX10_alike_37 : decode cX10_alike 37 = .ok (.iconst 0, 1) := by decide +kernel
theorem dX10_alike_38 : decode cX10_alike 38 = .ok (.istore_n 3, 1) := by decide +kernel
theorem dX10_alike_39 : decode cX10_alike 39 = .ok (.iload_n 3, 1) := by decide +kernel
theorem dX10_alike_40 : decode cX10_alike 40 = .ok (.iload_n 1, 1) := by decide +kernel
theorem dX10_alike_41 : decode cX10_alike 41 = .ok (.if_icmp .ge 50, 3) := by decide +kernel
theorem dX10_alike_44 : decode cX10_alike 44 = .ok (.aload_n 0, 1) := by decide +kernel
theorem dX10_alike_45 : decode cX10_alike 45 = .ok (.getfield 7, 3) := by decide +kernel
theorem dX10_alike_48 : decode cX10_alike 48 = .ok (.iload_n 2, 1) := by decide +kernel
theorem dX10_alike_49 : decode cX10_alike 49 = .ok (.iaload, 1) := by decide +kernel
theorem dX10_alike_50 : decode cX10_alike 50 = .ok (.ifCond .le 41, 3) := by decide +kernel
theorem dX10_alike_53 : decode cX10_alike 53 = .ok (.aload_n 0, 1) := by decide +kernel
theorem dX10_alike_54 : decode cX10_alike 54 = .ok (.getfield 36, 3) := by decide +kernel
theorem dX10_alike_57 : decode cX10_alike 57 = .ok (.iload_n 2, 1) := by decide +kernel
theorem dX10_alike_58 : decode cX10_alike 58 = .ok (.dup2, 1) := by decide +kernel
theorem dX10_alike_59 : decode cX10_alike 59 = .ok (.iaload, 1) := by decide +kernel
theorem dX10_alike_60 : decode cX10_alike 60 = .ok (.iconst 1, 1) := by decide +kernel
theorem dX10_alike_61 : decode cX10_alike 61 = .ok (.aload_n 0, 1) := by decide +kernel
theorem dX10_alike_62 : decode cX10_alike 62 = .ok (.getfield 13, 3) := by decide +kernel
theorem dX10_alike_65 : decode cX10_alike 65 = .ok (.bipush 80, 2) := by decide +kernel
theorem dX10_alike_67 : decode cX10_alike 67 = .ok (.iaload, 1) := by decide +kernel
theorem dX10_alike_68 : decode cX10_alike 68 = .ok (.iload_n 3, 1) := by decide +kernel
theorem dX10_alike_69 : decode cX10_alike 69 = .ok (.iadd, 1) := by decide +kernel
theorem dX10_alike_70 : decode cX10_alike 70 = .ok (.aload_n 0, 1) := by decide +kernel
theorem dX10_alike_71 : decode cX10_alike 71 = .ok (.getfield 7, 3) := by decide +kernel
theorem dX10_alike_74 : decode cX10_alike 74 = .ok (.iload_n 2, 1) := by decide +kernel
theorem dX10_alike_75 : decode cX10_alike 75 = .ok (.iaload, 1) := by decide +kernel
theorem dX10_alike_76 : decode cX10_alike 76 = .ok (.imul, 1) := by decide +kernel
theorem dX10_alike_77 : decode cX10_alike 77 = .ok (.iload_n 2, 1) := by decide +kernel
theorem dX10_alike_78 : decode cX10_alike 78 = .ok (.iadd, 1) := by decide +kernel
theorem dX10_alike_79 : decode cX10_alike 79 = .ok (.bipush 8, 2) := by decide +kernel
theorem dX10_alike_81 : decode cX10_alike 81 = .ok (.irem, 1) := by decide +kernel
theorem dX10_alike_82 : decode cX10_alike 82 = .ok (.ishl, 1) := by decide +kernel
theorem dX10_alike_83 : decode cX10_alike 83 = .ok (.ixor, 1) := by decide +kernel
theorem dX10_alike_84 : decode cX10_alike 84 = .ok (.iastore, 1) := by decide +kernel
theorem dX10_alike_85 : decode cX10_alike 85 = .ok (.iinc 3 1, 3) := by decide +kernel
theorem dX10_alike_88 : decode cX10_alike 88 = .ok (.goto (-49), 3) := by decide +kernel
theorem dX10_alike_91 : decode cX10_alike 91 = .ok (.iinc 2 1, 3) := by decide +kernel
theorem dX10_alike_94 : decode cX10_alike 94 = .ok (.goto (-77), 3) := by decide +kernel
theorem dX10_alike_97 : decode cX10_alike 97 = .ok (.iconst 0, 1) := by decide +kernel
theorem dX10_alike_98 : decode cX10_alike 98 = .ok (.istore_n 2, 1) := by decide +kernel
theorem dX10_alike_99 : decode cX10_alike 99 = .ok (.iload_n 2, 1) := by decide +kernel
theorem dX10_alike_100 : decode cX10_alike 100 = .ok (.bipush 64, 2) := by decide +kernel
theorem dX10_alike_102 : decode cX10_alike 102 = .ok (.if_icmp .ge 59, 3) := by decide +kernel
theorem dX10_alike_105 : decode cX10_alike 105 = .ok (.iload_n 2, 1) := by decide +kernel
theorem dX10_alike_106 : decode cX10_alike 106 = .ok (.bipush 8, 2) := by decide +kernel
theorem dX10_alike_108 : decode cX10_alike 108 = .ok (.idiv, 1) := by decide +kernel
theorem dX10_alike_109 : decode cX10_alike 109 = .ok (.istore_n 3, 1) := by decide +kernel
theorem dX10_alike_110 : decode cX10_alike 110 = .ok (.iload_n 2, 1) := by decide +kernel
theorem dX10_alike_111 : decode cX10_alike 111 = .ok (.bipush 8, 2) := by decide +kernel
theorem dX10_alike_113 : decode cX10_alike 113 = .ok (.irem, 1) := by decide +kernel
theorem dX10_alike_114 : decode cX10_alike 114 = .ok (.istore 4, 2) := by decide +kernel
theorem dX10_alike_116 : decode cX10_alike 116 = .ok (.iload_n 3, 1) := by decide +kernel
theorem dX10_alike_117 : decode cX10_alike 117 = .ok (.iload 4, 2) := by decide +kernel
theorem dX10_alike_119 : decode cX10_alike 119 = .ok (.if_icmp .ge 36, 3) := by decide +kernel
theorem dX10_alike_122 : decode cX10_alike 122 = .ok (.iload 4, 2) := by decide +kernel
theorem dX10_alike_124 : decode cX10_alike 124 = .ok (.aload_n 0, 1) := by decide +kernel
theorem dX10_alike_125 : decode cX10_alike 125 = .ok (.getfield 63, 3) := by decide +kernel
theorem dX10_alike_128 : decode cX10_alike 128 = .ok (.if_icmp .ge 27, 3) := by decide +kernel
theorem dX10_alike_131 : decode cX10_alike 131 = .ok (.aload_n 0, 1) := by decide +kernel
theorem dX10_alike_132 : decode cX10_alike 132 = .ok (.getfield 36, 3) := by decide +kernel
theorem dX10_alike_135 : decode cX10_alike 135 = .ok (.iload_n 3, 1) := by decide +kernel
theorem dX10_alike_136 : decode cX10_alike 136 = .ok (.iaload, 1) := by decide +kernel
theorem dX10_alike_137 : decode cX10_alike 137 = .ok (.aload_n 0, 1) := by decide +kernel
theorem dX10_alike_138 : decode cX10_alike 138 = .ok (.getfield 36, 3) := by decide +kernel
theorem dX10_alike_141 : decode cX10_alike 141 = .ok (.iload 4, 2) := by decide +kernel
theorem dX10_alike_143 : decode cX10_alike 143 = .ok (.iaload, 1) := by decide +kernel
theorem dX10_alike_144 : decode cX10_alike 144 = .ok (.if_icmp .ne 11, 3) := by decide +kernel
theorem dX10_alike_147 : decode cX10_alike 147 = .ok (.bipush 10, 2) := by decide +kernel
theorem dX10_alike_149 : decode cX10_alike 149 = .ok (.iload_n 3, 1) := by decide +kernel
theorem dX10_alike_150 : decode cX10_alike 150 = .ok (.imul, 1) := by decide +kernel
theorem dX10_alike_151 : decode cX10_alike 151 = .ok (.iload 4, 2) := by decide +kernel
theorem dX10_alike_153 : decode cX10_alike 153 = .ok (.iadd, 1) := by decide +kernel
theorem dX10_alike_154 : decode cX10_alike 154 = .ok (.ireturn, 1) := by decide +kernel
theorem dX10_alike_155 : decode cX10_alike 155 = .ok (.iinc 2 1, 3) := by decide +kernel
theorem dX10_alike_158 : decode cX10_alike 158 = .ok (.goto (-59), 3) := by decide +kernel
theorem dX10_alike_161 : decode cX10_alike 161 = .ok (.iconst (-1), 1) := by decide +kernel
theorem dX10_alike_162 : decode cX10_alike 162 = .ok (.ireturn, 1) := by decide +kernel
theorem dX10_see_0 : decode cX10_see 0 = .ok (.aload_n 0, 1) := by decide +kernel
theorem dX10_see_1 : decode cX10_see 1 = .ok (.iload 4, 2) := by decide +kernel
theorem dX10_see_3 : decode cX10_see 3 = .ok (.invokevirtual 70, 3) := by decide +kernel
theorem dX10_see_6 : decode cX10_see 6 = .ok (.ifCond .eq 13, 3) := by decide +kernel
theorem dX10_see_9 : decode cX10_see 9 = .ok (.aload_n 0, 1) := by decide +kernel
theorem dX10_see_10 : decode cX10_see 10 = .ok (.iload_n 1, 1) := by decide +kernel
theorem dX10_see_11 : decode cX10_see 11 = .ok (.iload_n 2, 1) := by decide +kernel
theorem dX10_see_12 : decode cX10_see 12 = .ok (.iload_n 3, 1) := by decide +kernel
theorem dX10_see_13 : decode cX10_see 13 = .ok (.invokevirtual 184, 3) := by decide +kernel
theorem dX10_see_16 : decode cX10_see 16 = .ok (.goto 5, 3) := by decide +kernel
theorem dX10_see_19 : decode cX10_see 19 = .ok (.ldc 152, 2) := by decide +kernel
theorem dX10_see_21 : decode cX10_see 21 = .ok (.istore 5, 2) := by decide +kernel
theorem dX10_see_23 : decode cX10_see 23 = .ok (.iload 5, 2) := by decide +kernel
theorem dX10_see_25 : decode cX10_see 25 = .ok (.ifCond .ne 17, 3) := by decide +kernel
theorem dX10_see_28 : decode cX10_see 28 = .ok (.iload_n 3, 1) := by decide +kernel
theorem dX10_see_29 : decode cX10_see 29 = .ok (.iload 4, 2) := by decide +kernel
theorem dX10_see_31 : decode cX10_see 31 = .ok (.invokestatic 160, 3) := by decide +kernel
theorem dX10_see_34 : decode cX10_see 34 = .ok (.ifCond .ne 8, 3) := by decide +kernel
theorem dX10_see_37 : decode cX10_see 37 = .ok (.ldc 76, 2) := by decide +kernel
theorem dX10_see_39 : decode cX10_see 39 = .ok (.goto 5, 3) := by decide +kernel
theorem dX10_see_42 : decode cX10_see 42 = .ok (.iload 5, 2) := by decide +kernel
theorem dX10_see_44 : decode cX10_see 44 = .ok (.istore 5, 2) := by decide +kernel
theorem dX10_see_46 : decode cX10_see 46 = .ok (.iload 5, 2) := by decide +kernel
theorem dX10_see_48 : decode cX10_see 48 = .ok (.ifCond .eq 8, 3) := by decide +kernel
theorem dX10_see_51 : decode cX10_see 51 = .ok (.iload 5, 2) := by decide +kernel
theorem dX10_see_53 : decode cX10_see 53 = .ok (.goto 9, 3) := by decide +kernel
theorem dX10_see_56 : decode cX10_see 56 = .ok (.aload_n 0, 1) := by decide +kernel
theorem dX10_see_57 : decode cX10_see 57 = .ok (.iload_n 1, 1) := by decide +kernel
theorem dX10_see_58 : decode cX10_see 58 = .ok (.iload_n 2, 1) := by decide +kernel
theorem dX10_see_59 : decode cX10_see 59 = .ok (.invokevirtual 188, 3) := by decide +kernel
theorem dX10_see_62 : decode cX10_see 62 = .ok (.istore 5, 2) := by decide +kernel
theorem dX10_see_64 : decode cX10_see 64 = .ok (.iload 5, 2) := by decide +kernel
theorem dX10_see_66 : decode cX10_see 66 = .ok (.ifCond .eq 6, 3) := by decide +kernel
theorem dX10_see_69 : decode cX10_see 69 = .ok (.iload 5, 2) := by decide +kernel
theorem dX10_see_71 : decode cX10_see 71 = .ok (.ireturn, 1) := by decide +kernel
theorem dX10_see_72 : decode cX10_see 72 = .ok (.aload_n 0, 1) := by decide +kernel
theorem dX10_see_73 : decode cX10_see 73 = .ok (.getfield 124, 3) := by decide +kernel
theorem dX10_see_76 : decode cX10_see 76 = .ok (.bipush 8, 2) := by decide +kernel
theorem dX10_see_78 : decode cX10_see 78 = .ok (.if_icmp .ne 6, 3) := by decide +kernel
theorem dX10_see_81 : decode cX10_see 81 = .ok (.ldc 80, 2) := by decide +kernel
theorem dX10_see_83 : decode cX10_see 83 = .ok (.ireturn, 1) := by decide +kernel
theorem dX10_see_84 : decode cX10_see 84 = .ok (.aload_n 0, 1) := by decide +kernel
theorem dX10_see_85 : decode cX10_see 85 = .ok (.getfield 39, 3) := by decide +kernel
theorem dX10_see_88 : decode cX10_see 88 = .ok (.aload_n 0, 1) := by decide +kernel
theorem dX10_see_89 : decode cX10_see 89 = .ok (.getfield 124, 3) := by decide +kernel
theorem dX10_see_92 : decode cX10_see 92 = .ok (.iload_n 1, 1) := by decide +kernel
theorem dX10_see_93 : decode cX10_see 93 = .ok (.iastore, 1) := by decide +kernel
theorem dX10_see_94 : decode cX10_see 94 = .ok (.aload_n 0, 1) := by decide +kernel
theorem dX10_see_95 : decode cX10_see 95 = .ok (.getfield 42, 3) := by decide +kernel
theorem dX10_see_98 : decode cX10_see 98 = .ok (.aload_n 0, 1) := by decide +kernel
theorem dX10_see_99 : decode cX10_see 99 = .ok (.getfield 124, 3) := by decide +kernel
theorem dX10_see_102 : decode cX10_see 102 = .ok (.iload_n 2, 1) := by decide +kernel
theorem dX10_see_103 : decode cX10_see 103 = .ok (.iastore, 1) := by decide +kernel
theorem dX10_see_104 : decode cX10_see 104 = .ok (.aload_n 0, 1) := by decide +kernel
theorem dX10_see_105 : decode cX10_see 105 = .ok (.getfield 45, 3) := by decide +kernel
theorem dX10_see_108 : decode cX10_see 108 = .ok (.aload_n 0, 1) := by decide +kernel
theorem dX10_see_109 : decode cX10_see 109 = .ok (.getfield 124, 3) := by decide +kernel
theorem dX10_see_112 : decode cX10_see 112 = .ok (.iload_n 3, 1) := by decide +kernel
theorem dX10_see_113 : decode cX10_see 113 = .ok (.iastore, 1) := by decide +kernel
theorem dX10_see_114 : decode cX10_see 114 = .ok (.aload_n 0, 1) := by decide +kernel
theorem dX10_see_115 : decode cX10_see 115 = .ok (.getfield 48, 3) := by decide +kernel
theorem dX10_see_118 : decode cX10_see 118 = .ok (.aload_n 0, 1) := by decide +kernel
theorem dX10_see_119 : decode cX10_see 119 = .ok (.getfield 124, 3) := by decide +kernel
theorem dX10_see_122 : decode cX10_see 122 = .ok (.iload 4, 2) := by decide +kernel
theorem dX10_see_124 : decode cX10_see 124 = .ok (.iastore, 1) := by decide +kernel
theorem dX10_see_125 : decode cX10_see 125 = .ok (.aload_n 0, 1) := by decide +kernel
theorem dX10_see_126 : decode cX10_see 126 = .ok (.dup, 1) := by decide +kernel
theorem dX10_see_127 : decode cX10_see 127 = .ok (.getfield 124, 3) := by decide +kernel
theorem dX10_see_130 : decode cX10_see 130 = .ok (.iconst 1, 1) := by decide +kernel
theorem dX10_see_131 : decode cX10_see 131 = .ok (.iadd, 1) := by decide +kernel
theorem dX10_see_132 : decode cX10_see 132 = .ok (.putfield 124, 3) := by decide +kernel
theorem dX10_see_135 : decode cX10_see 135 = .ok (.aload_n 0, 1) := by decide +kernel
theorem dX10_see_136 : decode cX10_see 136 = .ok (.getfield 124, 3) := by decide +kernel
theorem dX10_see_139 : decode cX10_see 139 = .ok (.ireturn, 1) := by decide +kernel
theorem dX10_nodsOf_0 : decode cX10_nodsOf 0 = .ok (.iconst 0, 1) := by decide +kernel
theorem dX10_nodsOf_1 : decode cX10_nodsOf 1 = .ok (.istore_n 2, 1) := by decide +kernel
theorem dX10_nodsOf_2 : decode cX10_nodsOf 2 = .ok (.iconst 0, 1) := by decide +kernel
theorem dX10_nodsOf_3 : decode cX10_nodsOf 3 = .ok (.istore_n 3, 1) := by decide +kernel
theorem dX10_nodsOf_4 : decode cX10_nodsOf 4 = .ok (.iload_n 3, 1) := by decide +kernel
theorem dX10_nodsOf_5 : decode cX10_nodsOf 5 = .ok (.aload_n 0, 1) := by decide +kernel
theorem dX10_nodsOf_6 : decode cX10_nodsOf 6 = .ok (.getfield 124, 3) := by decide +kernel
theorem dX10_nodsOf_9 : decode cX10_nodsOf 9 = .ok (.if_icmp .ge 66, 3) := by decide +kernel
theorem dX10_nodsOf_12 : decode cX10_nodsOf 12 = .ok (.aload_n 0, 1) := by decide +kernel
theorem dX10_nodsOf_13 : decode cX10_nodsOf 13 = .ok (.getfield 39, 3) := by decide +kernel
theorem dX10_nodsOf_16 : decode cX10_nodsOf 16 = .ok (.iload_n 3, 1) := by decide +kernel
theorem dX10_nodsOf_17 : decode cX10_nodsOf 17 = .ok (.iaload, 1) := by decide +kernel
theorem dX10_nodsOf_18 : decode cX10_nodsOf 18 = .ok (.iload_n 1, 1) := by decide +kernel
theorem dX10_nodsOf_19 : decode cX10_nodsOf 19 = .ok (.if_icmp .ne 50, 3) := by decide +kernel
theorem dX10_nodsOf_22 : decode cX10_nodsOf 22 = .ok (.aload_n 0, 1) := by decide +kernel
theorem dX10_nodsOf_23 : decode cX10_nodsOf 23 = .ok (.iload_n 1, 1) := by decide +kernel
theorem dX10_nodsOf_24 : decode cX10_nodsOf 24 = .ok (.aload_n 0, 1) := by decide +kernel
theorem dX10_nodsOf_25 : decode cX10_nodsOf 25 = .ok (.getfield 42, 3) := by decide +kernel
theorem dX10_nodsOf_28 : decode cX10_nodsOf 28 = .ok (.iload_n 3, 1) := by decide +kernel
theorem dX10_nodsOf_29 : decode cX10_nodsOf 29 = .ok (.iaload, 1) := by decide +kernel
theorem dX10_nodsOf_30 : decode cX10_nodsOf 30 = .ok (.invokevirtual 133, 3) := by decide +kernel
theorem dX10_nodsOf_33 : decode cX10_nodsOf 33 = .ok (.istore 4, 2) := by decide +kernel
theorem dX10_nodsOf_35 : decode cX10_nodsOf 35 = .ok (.iload_n 2, 1) := by decide +kernel
theorem dX10_nodsOf_36 : decode cX10_nodsOf 36 = .ok (.iload 4, 2) := by decide +kernel
theorem dX10_nodsOf_38 : decode cX10_nodsOf 38 = .ok (.ifCond .lt 24, 3) := by decide +kernel
theorem dX10_nodsOf_41 : decode cX10_nodsOf 41 = .ok (.aload_n 0, 1) := by decide +kernel
theorem dX10_nodsOf_42 : decode cX10_nodsOf 42 = .ok (.iload 4, 2) := by decide +kernel
theorem dX10_nodsOf_44 : decode cX10_nodsOf 44 = .ok (.aload_n 0, 1) := by decide +kernel
theorem dX10_nodsOf_45 : decode cX10_nodsOf 45 = .ok (.getfield 45, 3) := by decide +kernel
theorem dX10_nodsOf_48 : decode cX10_nodsOf 48 = .ok (.iload_n 3, 1) := by decide +kernel
theorem dX10_nodsOf_49 : decode cX10_nodsOf 49 = .ok (.iaload, 1) := by decide +kernel
theorem dX10_nodsOf_50 : decode cX10_nodsOf 50 = .ok (.invokevirtual 166, 3) := by decide +kernel
theorem dX10_nodsOf_53 : decode cX10_nodsOf 53 = .ok (.aload_n 0, 1) := by decide +kernel
theorem dX10_nodsOf_54 : decode cX10_nodsOf 54 = .ok (.getfield 48, 3) := by decide +kernel
theorem dX10_nodsOf_57 : decode cX10_nodsOf 57 = .ok (.iload_n 3, 1) := by decide +kernel
theorem dX10_nodsOf_58 : decode cX10_nodsOf 58 = .ok (.iaload, 1) := by decide +kernel
theorem dX10_nodsOf_59 : decode cX10_nodsOf 59 = .ok (.if_icmp .eq 7, 3) := by decide +kernel
theorem dX10_nodsOf_62 : decode cX10_nodsOf 62 = .ok (.iconst 1, 1) := by decide +kernel
theorem dX10_nodsOf_63 : decode cX10_nodsOf 63 = .ok (.goto 4, 3) := by decide +kernel
theorem dX10_nodsOf_66 : decode cX10_nodsOf 66 = .ok (.iconst 0, 1) := by decide +kernel
theorem dX10_nodsOf_67 : decode cX10_nodsOf 67 = .ok (.iadd, 1) := by decide +kernel
theorem dX10_nodsOf_68 : decode cX10_nodsOf 68 = .ok (.istore_n 2, 1) := by decide +kernel
theorem dX10_nodsOf_69 : decode cX10_nodsOf 69 = .ok (.iinc 3 1, 3) := by decide +kernel
theorem dX10_nodsOf_72 : decode cX10_nodsOf 72 = .ok (.goto (-68), 3) := by decide +kernel
theorem dX10_nodsOf_75 : decode cX10_nodsOf 75 = .ok (.iload_n 2, 1) := by decide +kernel
theorem dX10_nodsOf_76 : decode cX10_nodsOf 76 = .ok (.ireturn, 1) := by decide +kernel
theorem dX10_honest_0 : decode cX10_honest 0 = .ok (.iconst 0, 1) := by decide +kernel
theorem dX10_honest_1 : decode cX10_honest 1 = .ok (.istore_n 1, 1) := by decide +kernel
theorem dX10_honest_2 : decode cX10_honest 2 = .ok (.iconst 0, 1) := by decide +kernel
theorem dX10_honest_3 : decode cX10_honest 3 = .ok (.istore_n 2, 1) := by decide +kernel
theorem dX10_honest_4 : decode cX10_honest 4 = .ok (.iload_n 2, 1) := by decide +kernel
theorem dX10_honest_5 : decode cX10_honest 5 = .ok (.aload_n 0, 1) := by decide +kernel
theorem dX10_honest_6 : decode cX10_honest 6 = .ok (.getfield 63, 3) := by decide +kernel
theorem dX10_honest_9 : decode cX10_honest 9 = .ok (.if_icmp .ge 27, 3) := by decide +kernel
theorem dX10_honest_12 : decode cX10_honest 12 = .ok (.iload_n 1, 1) := by decide +kernel
theorem dX10_honest_13 : decode cX10_honest 13 = .ok (.aload_n 0, 1) := by decide +kernel
theorem dX10_honest_14 : decode cX10_honest 14 = .ok (.iload_n 2, 1) := by decide +kernel
theorem dX10_honest_15 : decode cX10_honest 15 = .ok (.invokevirtual 217, 3) := by decide +kernel
theorem dX10_honest_18 : decode cX10_honest 18 = .ok (.ifCond .ne 9, 3) := by decide +kernel
theorem dX10_honest_21 : decode cX10_honest 21 = .ok (.iconst 1, 1) := by decide +kernel
theorem dX10_honest_22 : decode cX10_honest 22 = .ok (.iload_n 2, 1) := by decide +kernel
theorem dX10_honest_23 : decode cX10_honest 23 = .ok (.ishl, 1) := by decide +kernel
theorem dX10_honest_24 : decode cX10_honest 24 = .ok (.goto 4, 3) := by decide +kernel
theorem dX10_honest_27 : decode cX10_honest 27 = .ok (.iconst 0, 1) := by decide +kernel
theorem dX10_honest_28 : decode cX10_honest 28 = .ok (.ior, 1) := by decide +kernel
theorem dX10_honest_29 : decode cX10_honest 29 = .ok (.istore_n 1, 1) := by decide +kernel
theorem dX10_honest_30 : decode cX10_honest 30 = .ok (.iinc 2 1, 3) := by decide +kernel
theorem dX10_honest_33 : decode cX10_honest 33 = .ok (.goto (-29), 3) := by decide +kernel
theorem dX10_honest_36 : decode cX10_honest 36 = .ok (.iload_n 1, 1) := by decide +kernel
theorem dX10_honest_37 : decode cX10_honest 37 = .ok (.ireturn, 1) := by decide +kernel
theorem dX10_nods_0 : decode cX10_nods 0 = .ok (.aload_n 0, 1) := by decide +kernel
theorem dX10_nods_1 : decode cX10_nods 1 = .ok (.iload_n 1, 1) := by decide +kernel
theorem dX10_nods_2 : decode cX10_nods 2 = .ok (.invokevirtual 70, 3) := by decide +kernel
theorem dX10_nods_5 : decode cX10_nods 5 = .ok (.ifCond .eq 11, 3) := by decide +kernel
theorem dX10_nods_8 : decode cX10_nods 8 = .ok (.aload_n 0, 1) := by decide +kernel
theorem dX10_nods_9 : decode cX10_nods 9 = .ok (.iload_n 1, 1) := by decide +kernel
theorem dX10_nods_10 : decode cX10_nods 10 = .ok (.invokevirtual 217, 3) := by decide +kernel
theorem dX10_nods_13 : decode cX10_nods 13 = .ok (.goto 5, 3) := by decide +kernel
theorem dX10_nods_16 : decode cX10_nods 16 = .ok (.ldc 152, 2) := by decide +kernel
theorem dX10_nods_18 : decode cX10_nods 18 = .ok (.ireturn, 1) := by decide +kernel
theorem dX10_spread_0 : decode cX10_spread 0 = .ok (.iconst 0, 1) := by decide +kernel
theorem dX10_spread_1 : decode cX10_spread 1 = .ok (.istore_n 3, 1) := by decide +kernel
theorem dX10_spread_2 : decode cX10_spread 2 = .ok (.bipush 99, 2) := by decide +kernel
theorem dX10_spread_4 : decode cX10_spread 4 = .ok (.istore 4, 2) := by decide +kernel
theorem dX10_spread_6 : decode cX10_spread 6 = .ok (.iconst 0, 1) := by decide +kernel
theorem dX10_spread_7 : decode cX10_spread 7 = .ok (.istore 5, 2) := by decide +kernel
theorem dX10_spread_9 : decode cX10_spread 9 = .ok (.iload 5, 2) := by decide +kernel
theorem dX10_spread_11 : decode cX10_spread 11 = .ok (.aload_n 0, 1) := by decide +kernel
theorem dX10_spread_12 : decode cX10_spread 12 = .ok (.getfield 63, 3) := by decide +kernel
theorem dX10_spread_15 : decode cX10_spread 15 = .ok (.if_icmp .ge 60, 3) := by decide +kernel
theorem dX10_spread_18 : decode cX10_spread 18 = .ok (.iload_n 2, 1) := by decide +kernel
theorem dX10_spread_19 : decode cX10_spread 19 = .ok (.iload 5, 2) := by decide +kernel
theorem dX10_spread_21 : decode cX10_spread 21 = .ok (.invokestatic 160, 3) := by decide +kernel
theorem dX10_spread_24 : decode cX10_spread 24 = .ok (.ifCond .eq 45, 3) := by decide +kernel
theorem dX10_spread_27 : decode cX10_spread 27 = .ok (.aload_n 0, 1) := by decide +kernel
theorem dX10_spread_28 : decode cX10_spread 28 = .ok (.getfield 13, 3) := by decide +kernel
theorem dX10_spread_31 : decode cX10_spread 31 = .ok (.iload 5, 2) := by decide +kernel
theorem dX10_spread_33 : decode cX10_spread 33 = .ok (.iaload, 1) := by decide +kernel
theorem dX10_spread_34 : decode cX10_spread 34 = .ok (.iload_n 1, 1) := by decide +kernel
theorem dX10_spread_35 : decode cX10_spread 35 = .ok (.invokestatic 163, 3) := by decide +kernel
theorem dX10_spread_38 : decode cX10_spread 38 = .ok (.istore 6, 2) := by decide +kernel
theorem dX10_spread_40 : decode cX10_spread 40 = .ok (.iload 6, 2) := by decide +kernel
theorem dX10_spread_42 : decode cX10_spread 42 = .ok (.iload_n 3, 1) := by decide +kernel
theorem dX10_spread_43 : decode cX10_spread 43 = .ok (.if_icmp .le 8, 3) := by decide +kernel
theorem dX10_spread_46 : decode cX10_spread 46 = .ok (.iload 6, 2) := by decide +kernel
theorem dX10_spread_48 : decode cX10_spread 48 = .ok (.goto 4, 3) := by decide +kernel
theorem dX10_spread_51 : decode cX10_spread 51 = .ok (.iload_n 3, 1) := by decide +kernel
theorem dX10_spread_52 : decode cX10_spread 52 = .ok (.istore_n 3, 1) := by decide +kernel
theorem dX10_spread_53 : decode cX10_spread 53 = .ok (.iload 6, 2) := by decide +kernel
theorem dX10_spread_55 : decode cX10_spread 55 = .ok (.iload 4, 2) := by decide +kernel
theorem dX10_spread_57 : decode cX10_spread 57 = .ok (.if_icmp .ge 8, 3) := by decide +kernel
theorem dX10_spread_60 : decode cX10_spread 60 = .ok (.iload 6, 2) := by decide +kernel
theorem dX10_spread_62 : decode cX10_spread 62 = .ok (.goto 5, 3) := by decide +kernel
theorem dX10_spread_65 : decode cX10_spread 65 = .ok (.iload 4, 2) := by decide +kernel
theorem dX10_spread_67 : decode cX10_spread 67 = .ok (.istore 4, 2) := by decide +kernel
theorem dX10_spread_69 : decode cX10_spread 69 = .ok (.iinc 5 1, 3) := by decide +kernel
theorem dX10_spread_72 : decode cX10_spread 72 = .ok (.goto (-63), 3) := by decide +kernel
theorem dX10_spread_75 : decode cX10_spread 75 = .ok (.iload_n 3, 1) := by decide +kernel
theorem dX10_spread_76 : decode cX10_spread 76 = .ok (.iload 4, 2) := by decide +kernel
theorem dX10_spread_78 : decode cX10_spread 78 = .ok (.isub, 1) := by decide +kernel
theorem dX10_spread_79 : decode cX10_spread 79 = .ok (.ireturn, 1) := by decide +kernel
theorem dX10_showNext_0 : decode cX10_showNext 0 = .ok (.aload_n 0, 1) := by decide +kernel
theorem dX10_showNext_1 : decode cX10_showNext 1 = .ok (.iload_n 1, 1) := by decide +kernel
theorem dX10_showNext_2 : decode cX10_showNext 2 = .ok (.iload_n 2, 1) := by decide +kernel
theorem dX10_showNext_3 : decode cX10_showNext 3 = .ok (.invokevirtual 156, 3) := by decide +kernel
theorem dX10_showNext_6 : decode cX10_showNext 6 = .ok (.ifCond .ne 6, 3) := by decide +kernel
theorem dX10_showNext_9 : decode cX10_showNext 9 = .ok (.ldc 152, 2) := by decide +kernel
theorem dX10_showNext_11 : decode cX10_showNext 11 = .ok (.ireturn, 1) := by decide +kernel
theorem dX10_showNext_12 : decode cX10_showNext 12 = .ok (.aload_n 0, 1) := by decide +kernel
theorem dX10_showNext_13 : decode cX10_showNext 13 = .ok (.iload_n 1, 1) := by decide +kernel
theorem dX10_showNext_14 : decode cX10_showNext 14 = .ok (.iload_n 2, 1) := by decide +kernel
theorem dX10_showNext_15 : decode cX10_showNext 15 = .ok (.invokevirtual 133, 3) := by decide +kernel
theorem dX10_showNext_18 : decode cX10_showNext 18 = .ok (.ifCond .ge 6, 3) := by decide +kernel
theorem dX10_showNext_21 : decode cX10_showNext 21 = .ok (.ldc 171, 2) := by decide +kernel
theorem dX10_showNext_23 : decode cX10_showNext 23 = .ok (.ireturn, 1) := by decide +kernel
theorem dX10_showNext_24 : decode cX10_showNext 24 = .ok (.iconst (-1), 1) := by decide +kernel
theorem dX10_showNext_25 : decode cX10_showNext 25 = .ok (.istore_n 3, 1) := by decide +kernel
theorem dX10_showNext_26 : decode cX10_showNext 26 = .ok (.iconst (-1), 1) := by decide +kernel
theorem dX10_showNext_27 : decode cX10_showNext 27 = .ok (.istore 4, 2) := by decide +kernel
theorem dX10_showNext_29 : decode cX10_showNext 29 = .ok (.iconst 0, 1) := by decide +kernel
theorem dX10_showNext_30 : decode cX10_showNext 30 = .ok (.istore 5, 2) := by decide +kernel
theorem dX10_showNext_32 : decode cX10_showNext 32 = .ok (.iload 5, 2) := by decide +kernel
theorem dX10_showNext_34 : decode cX10_showNext 34 = .ok (.iconst 1, 1) := by decide +kernel
theorem dX10_showNext_35 : decode cX10_showNext 35 = .ok (.aload_n 0, 1) := by decide +kernel
theorem dX10_showNext_36 : decode cX10_showNext 36 = .ok (.getfield 63, 3) := by decide +kernel
theorem dX10_showNext_39 : decode cX10_showNext 39 = .ok (.ishl, 1) := by decide +kernel
theorem dX10_showNext_40 : decode cX10_showNext 40 = .ok (.if_icmp .ge 71, 3) := by decide +kernel
theorem dX10_showNext_43 : decode cX10_showNext 43 = .ok (.iload 5, 2) := by decide +kernel
theorem dX10_showNext_45 : decode cX10_showNext 45 = .ok (.invokestatic 140, 3) := by decide +kernel
theorem dX10_showNext_48 : decode cX10_showNext 48 = .ok (.iconst 3, 1) := by decide +kernel
theorem dX10_showNext_49 : decode cX10_showNext 49 = .ok (.if_icmp .ne 56, 3) := by decide +kernel
theorem dX10_showNext_52 : decode cX10_showNext 52 = .ok (.iload 5, 2) := by decide +kernel
theorem dX10_showNext_54 : decode cX10_showNext 54 = .ok (.iload_n 1, 1) := by decide +kernel
theorem dX10_showNext_55 : decode cX10_showNext 55 = .ok (.invokestatic 160, 3) := by decide +kernel
theorem dX10_showNext_58 : decode cX10_showNext 58 = .ok (.ifCond .ne 47, 3) := by decide +kernel
theorem dX10_showNext_61 : decode cX10_showNext 61 = .ok (.aload_n 0, 1) := by decide +kernel
theorem dX10_showNext_62 : decode cX10_showNext 62 = .ok (.aload_n 0, 1) := by decide +kernel
theorem dX10_showNext_63 : decode cX10_showNext 63 = .ok (.iload_n 1, 1) := by decide +kernel
theorem dX10_showNext_64 : decode cX10_showNext 64 = .ok (.iload_n 2, 1) := by decide +kernel
theorem dX10_showNext_65 : decode cX10_showNext 65 = .ok (.invokevirtual 133, 3) := by decide +kernel
theorem dX10_showNext_68 : decode cX10_showNext 68 = .ok (.iload 5, 2) := by decide +kernel
theorem dX10_showNext_70 : decode cX10_showNext 70 = .ok (.invokevirtual 220, 3) := by decide +kernel
theorem dX10_showNext_73 : decode cX10_showNext 73 = .ok (.istore 6, 2) := by decide +kernel
theorem dX10_showNext_75 : decode cX10_showNext 75 = .ok (.iload 6, 2) := by decide +kernel
theorem dX10_showNext_77 : decode cX10_showNext 77 = .ok (.iload 4, 2) := by decide +kernel
theorem dX10_showNext_79 : decode cX10_showNext 79 = .ok (.if_icmp .le 8, 3) := by decide +kernel
theorem dX10_showNext_82 : decode cX10_showNext 82 = .ok (.iload 5, 2) := by decide +kernel
theorem dX10_showNext_84 : decode cX10_showNext 84 = .ok (.goto 4, 3) := by decide +kernel
theorem dX10_showNext_87 : decode cX10_showNext 87 = .ok (.iload_n 3, 1) := by decide +kernel
theorem dX10_showNext_88 : decode cX10_showNext 88 = .ok (.istore_n 3, 1) := by decide +kernel
theorem dX10_showNext_89 : decode cX10_showNext 89 = .ok (.iload 6, 2) := by decide +kernel
theorem dX10_showNext_91 : decode cX10_showNext 91 = .ok (.iload 4, 2) := by decide +kernel
theorem dX10_showNext_93 : decode cX10_showNext 93 = .ok (.if_icmp .le 8, 3) := by decide +kernel
theorem dX10_showNext_96 : decode cX10_showNext 96 = .ok (.iload 6, 2) := by decide +kernel
theorem dX10_showNext_98 : decode cX10_showNext 98 = .ok (.goto 5, 3) := by decide +kernel
theorem dX10_showNext_101 : decode cX10_showNext 101 = .ok (.iload 4, 2) := by decide +kernel
theorem dX10_showNext_103 : decode cX10_showNext 103 = .ok (.istore 4, 2) := by decide +kernel
theorem dX10_showNext_105 : decode cX10_showNext 105 = .ok (.iinc 5 1, 3) := by decide +kernel
theorem dX10_showNext_108 : decode cX10_showNext 108 = .ok (.goto (-76), 3) := by decide +kernel
theorem dX10_showNext_111 : decode cX10_showNext 111 = .ok (.iload_n 3, 1) := by decide +kernel
theorem dX10_showNext_112 : decode cX10_showNext 112 = .ok (.ireturn, 1) := by decide +kernel
theorem dX10_write_0 : decode cX10_write 0 = .ok (.aload_n 0, 1) := by decide +kernel
theorem dX10_write_1 : decode cX10_write 1 = .ok (.iload_n 1, 1) := by decide +kernel
theorem dX10_write_2 : decode cX10_write 2 = .ok (.invokevirtual 70, 3) := by decide +kernel
theorem dX10_write_5 : decode cX10_write 5 = .ok (.ifCond .eq 11, 3) := by decide +kernel
theorem dX10_write_8 : decode cX10_write 8 = .ok (.aload_n 0, 1) := by decide +kernel
theorem dX10_write_9 : decode cX10_write 9 = .ok (.iload_n 2, 1) := by decide +kernel
theorem dX10_write_10 : decode cX10_write 10 = .ok (.invokevirtual 70, 3) := by decide +kernel
theorem dX10_write_13 : decode cX10_write 13 = .ok (.ifCond .ne 6, 3) := by decide +kernel
theorem dX10_write_16 : decode cX10_write 16 = .ok (.ldc 152, 2) := by decide +kernel
theorem dX10_write_18 : decode cX10_write 18 = .ok (.ireturn, 1) := by decide +kernel
theorem dX10_write_19 : decode cX10_write 19 = .ok (.aload_n 0, 1) := by decide +kernel
theorem dX10_write_20 : decode cX10_write 20 = .ok (.getfield 127, 3) := by decide +kernel
theorem dX10_write_23 : decode cX10_write 23 = .ok (.bipush 15, 2) := by decide +kernel
theorem dX10_write_25 : decode cX10_write 25 = .ok (.if_icmp .ne 6, 3) := by decide +kernel
theorem dX10_write_28 : decode cX10_write 28 = .ok (.ldc 80, 2) := by decide +kernel
theorem dX10_write_30 : decode cX10_write 30 = .ok (.ireturn, 1) := by decide +kernel
theorem dX10_write_31 : decode cX10_write 31 = .ok (.aload_n 0, 1) := by decide +kernel
theorem dX10_write_32 : decode cX10_write 32 = .ok (.getfield 51, 3) := by decide +kernel
theorem dX10_write_35 : decode cX10_write 35 = .ok (.aload_n 0, 1) := by decide +kernel
theorem dX10_write_36 : decode cX10_write 36 = .ok (.getfield 127, 3) := by decide +kernel
theorem dX10_write_39 : decode cX10_write 39 = .ok (.iload_n 1, 1) := by decide +kernel
theorem dX10_write_40 : decode cX10_write 40 = .ok (.iastore, 1) := by decide +kernel
theorem dX10_write_41 : decode cX10_write 41 = .ok (.aload_n 0, 1) := by decide +kernel
theorem dX10_write_42 : decode cX10_write 42 = .ok (.getfield 54, 3) := by decide +kernel
theorem dX10_write_45 : decode cX10_write 45 = .ok (.aload_n 0, 1) := by decide +kernel
theorem dX10_write_46 : decode cX10_write 46 = .ok (.getfield 127, 3) := by decide +kernel
theorem dX10_write_49 : decode cX10_write 49 = .ok (.iload_n 2, 1) := by decide +kernel
theorem dX10_write_50 : decode cX10_write 50 = .ok (.iastore, 1) := by decide +kernel
theorem dX10_write_51 : decode cX10_write 51 = .ok (.aload_n 0, 1) := by decide +kernel
theorem dX10_write_52 : decode cX10_write 52 = .ok (.dup, 1) := by decide +kernel
theorem dX10_write_53 : decode cX10_write 53 = .ok (.getfield 127, 3) := by decide +kernel
theorem dX10_write_56 : decode cX10_write 56 = .ok (.iconst 1, 1) := by decide +kernel
theorem dX10_write_57 : decode cX10_write 57 = .ok (.iadd, 1) := by decide +kernel
theorem dX10_write_58 : decode cX10_write 58 = .ok (.putfield 127, 3) := by decide +kernel
theorem dX10_write_61 : decode cX10_write 61 = .ok (.aload_n 0, 1) := by decide +kernel
theorem dX10_write_62 : decode cX10_write 62 = .ok (.getfield 127, 3) := by decide +kernel
theorem dX10_write_65 : decode cX10_write 65 = .ok (.ireturn, 1) := by decide +kernel
theorem dX10_tear_0 : decode cX10_tear 0 = .ok (.aload_n 0, 1) := by decide +kernel
theorem dX10_tear_1 : decode cX10_tear 1 = .ok (.getfield 124, 3) := by decide +kernel
theorem dX10_tear_4 : decode cX10_tear 4 = .ok (.aload_n 0, 1) := by decide +kernel
theorem dX10_tear_5 : decode cX10_tear 5 = .ok (.getfield 127, 3) := by decide +kernel
theorem dX10_tear_8 : decode cX10_tear 8 = .ok (.iadd, 1) := by decide +kernel
theorem dX10_tear_9 : decode cX10_tear 9 = .ok (.istore_n 1, 1) := by decide +kernel
theorem dX10_tear_10 : decode cX10_tear 10 = .ok (.aload_n 0, 1) := by decide +kernel
theorem dX10_tear_11 : decode cX10_tear 11 = .ok (.iconst 0, 1) := by decide +kernel
theorem dX10_tear_12 : decode cX10_tear 12 = .ok (.putfield 124, 3) := by decide +kernel
theorem dX10_tear_15 : decode cX10_tear 15 = .ok (.aload_n 0, 1) := by decide +kernel
theorem dX10_tear_16 : decode cX10_tear 16 = .ok (.iconst 0, 1) := by decide +kernel
theorem dX10_tear_17 : decode cX10_tear 17 = .ok (.putfield 127, 3) := by decide +kernel
theorem dX10_tear_20 : decode cX10_tear 20 = .ok (.iload_n 1, 1) := by decide +kernel
theorem dX10_tear_21 : decode cX10_tear 21 = .ok (.ireturn, 1) := by decide +kernel
theorem dX10_judge_0 : decode cX10_judge 0 = .ok (.iconst 0, 1) := by decide +kernel
theorem dX10_judge_1 : decode cX10_judge 1 = .ok (.istore_n 1, 1) := by decide +kernel
theorem dX10_judge_2 : decode cX10_judge 2 = .ok (.iload_n 1, 1) := by decide +kernel
theorem dX10_judge_3 : decode cX10_judge 3 = .ok (.aload_n 0, 1) := by decide +kernel
theorem dX10_judge_4 : decode cX10_judge 4 = .ok (.getfield 127, 3) := by decide +kernel
theorem dX10_judge_7 : decode cX10_judge 7 = .ok (.if_icmp .ge 34, 3) := by decide +kernel
theorem dX10_judge_10 : decode cX10_judge 10 = .ok (.aload_n 0, 1) := by decide +kernel
theorem dX10_judge_11 : decode cX10_judge 11 = .ok (.getfield 13, 3) := by decide +kernel
theorem dX10_judge_14 : decode cX10_judge 14 = .ok (.bipush 8, 2) := by decide +kernel
theorem dX10_judge_16 : decode cX10_judge 16 = .ok (.aload_n 0, 1) := by decide +kernel
theorem dX10_judge_17 : decode cX10_judge 17 = .ok (.getfield 51, 3) := by decide +kernel
theorem dX10_judge_20 : decode cX10_judge 20 = .ok (.iload_n 1, 1) := by decide +kernel
theorem dX10_judge_21 : decode cX10_judge 21 = .ok (.iaload, 1) := by decide +kernel
theorem dX10_judge_22 : decode cX10_judge 22 = .ok (.iadd, 1) := by decide +kernel
theorem dX10_judge_23 : decode cX10_judge 23 = .ok (.iaload, 1) := by decide +kernel
theorem dX10_judge_24 : decode cX10_judge 24 = .ok (.aload_n 0, 1) := by decide +kernel
theorem dX10_judge_25 : decode cX10_judge 25 = .ok (.getfield 54, 3) := by decide +kernel
theorem dX10_judge_28 : decode cX10_judge 28 = .ok (.iload_n 1, 1) := by decide +kernel
theorem dX10_judge_29 : decode cX10_judge 29 = .ok (.iaload, 1) := by decide +kernel
theorem dX10_judge_30 : decode cX10_judge 30 = .ok (.if_icmp .eq 5, 3) := by decide +kernel
theorem dX10_judge_33 : decode cX10_judge 33 = .ok (.iload_n 1, 1) := by decide +kernel
theorem dX10_judge_34 : decode cX10_judge 34 = .ok (.ireturn, 1) := by decide +kernel
theorem dX10_judge_35 : decode cX10_judge 35 = .ok (.iinc 1 1, 3) := by decide +kernel
theorem dX10_judge_38 : decode cX10_judge 38 = .ok (.goto (-36), 3) := by decide +kernel
theorem dX10_judge_41 : decode cX10_judge 41 = .ok (.iconst (-1), 1) := by decide +kernel
theorem dX10_judge_42 : decode cX10_judge 42 = .ok (.ireturn, 1) := by decide +kernel
theorem dX10_seed_0 : decode cX10_seed 0 = .ok (.iload_n 1, 1) := by decide +kernel
theorem dX10_seed_1 : decode cX10_seed 1 = .ok (.ifCond .ge 6, 3) := by decide +kernel
theorem dX10_seed_4 : decode cX10_seed 4 = .ok (.ldc 76, 2) := by decide +kernel
theorem dX10_seed_6 : decode cX10_seed 6 = .ok (.ireturn, 1) := by decide +kernel
theorem dX10_seed_7 : decode cX10_seed 7 = .ok (.aload_n 0, 1) := by decide +kernel
theorem dX10_seed_8 : decode cX10_seed 8 = .ok (.getfield 193, 3) := by decide +kernel
theorem dX10_seed_11 : decode cX10_seed 11 = .ok (.istore_n 2, 1) := by decide +kernel
theorem dX10_seed_12 : decode cX10_seed 12 = .ok (.aload_n 0, 1) := by decide +kernel
theorem dX10_seed_13 : decode cX10_seed 13 = .ok (.iload_n 1, 1) := by decide +kernel
theorem dX10_seed_14 : decode cX10_seed 14 = .ok (.putfield 193, 3) := by decide +kernel
theorem dX10_seed_17 : decode cX10_seed 17 = .ok (.iload_n 2, 1) := by decide +kernel
theorem dX10_seed_18 : decode cX10_seed 18 = .ok (.ireturn, 1) := by decide +kernel
theorem dX10_keep_0 : decode cX10_keep 0 = .ok (.iload_n 1, 1) := by decide +kernel
theorem dX10_keep_1 : decode cX10_keep 1 = .ok (.i2l, 1) := by decide +kernel
theorem dX10_keep_2 : decode cX10_keep 2 = .ok (.lconst 0, 1) := by decide +kernel
theorem dX10_keep_3 : decode cX10_keep 3 = .ok (.lconst 1, 1) := by decide +kernel
theorem dX10_keep_4 : decode cX10_keep 4 = .ok (.invokestatic 66, 3) := by decide +kernel
theorem dX10_keep_7 : decode cX10_keep 7 = .ok (.ifCond .ne 6, 3) := by decide +kernel
theorem dX10_keep_10 : decode cX10_keep 10 = .ok (.ldc 152, 2) := by decide +kernel
theorem dX10_keep_12 : decode cX10_keep 12 = .ok (.ireturn, 1) := by decide +kernel
theorem dX10_keep_13 : decode cX10_keep 13 = .ok (.iconst 0, 1) := by decide +kernel
theorem dX10_keep_14 : decode cX10_keep 14 = .ok (.istore_n 2, 1) := by decide +kernel
theorem dX10_keep_15 : decode cX10_keep 15 = .ok (.iload_n 2, 1) := by decide +kernel
theorem dX10_keep_16 : decode cX10_keep 16 = .ok (.bipush 81, 2) := by decide +kernel
theorem dX10_keep_18 : decode cX10_keep 18 = .ok (.if_icmp .ge 26, 3) := by decide +kernel
theorem dX10_keep_21 : decode cX10_keep 21 = .ok (.aload_n 0, 1) := by decide +kernel
theorem dX10_keep_22 : decode cX10_keep 22 = .ok (.getfield 57, 3) := by decide +kernel
theorem dX10_keep_25 : decode cX10_keep 25 = .ok (.bipush 82, 2) := by decide +kernel
theorem dX10_keep_27 : decode cX10_keep 27 = .ok (.iload_n 1, 1) := by decide +kernel
theorem dX10_keep_28 : decode cX10_keep 28 = .ok (.imul, 1) := by decide +kernel
theorem dX10_keep_29 : decode cX10_keep 29 = .ok (.iload_n 2, 1) := by decide +kernel
theorem dX10_keep_30 : decode cX10_keep 30 = .ok (.iadd, 1) := by decide +kernel
theorem dX10_keep_31 : decode cX10_keep 31 = .ok (.aload_n 0, 1) := by decide +kernel
theorem dX10_keep_32 : decode cX10_keep 32 = .ok (.getfield 13, 3) := by decide +kernel
theorem dX10_keep_35 : decode cX10_keep 35 = .ok (.iload_n 2, 1) := by decide +kernel
theorem dX10_keep_36 : decode cX10_keep 36 = .ok (.iaload, 1) := by decide +kernel
theorem dX10_keep_37 : decode cX10_keep 37 = .ok (.iastore, 1) := by decide +kernel
theorem dX10_keep_38 : decode cX10_keep 38 = .ok (.iinc 2 1, 3) := by decide +kernel
theorem dX10_keep_41 : decode cX10_keep 41 = .ok (.goto (-26), 3) := by decide +kernel
theorem dX10_keep_44 : decode cX10_keep 44 = .ok (.aload_n 0, 1) := by decide +kernel
theorem dX10_keep_45 : decode cX10_keep 45 = .ok (.getfield 57, 3) := by decide +kernel
theorem dX10_keep_48 : decode cX10_keep 48 = .ok (.bipush 82, 2) := by decide +kernel
theorem dX10_keep_50 : decode cX10_keep 50 = .ok (.iload_n 1, 1) := by decide +kernel
theorem dX10_keep_51 : decode cX10_keep 51 = .ok (.imul, 1) := by decide +kernel
theorem dX10_keep_52 : decode cX10_keep 52 = .ok (.bipush 81, 2) := by decide +kernel
theorem dX10_keep_54 : decode cX10_keep 54 = .ok (.iadd, 1) := by decide +kernel
theorem dX10_keep_55 : decode cX10_keep 55 = .ok (.aload_n 0, 1) := by decide +kernel
theorem dX10_keep_56 : decode cX10_keep 56 = .ok (.getfield 193, 3) := by decide +kernel
theorem dX10_keep_59 : decode cX10_keep 59 = .ok (.iastore, 1) := by decide +kernel
theorem dX10_keep_60 : decode cX10_keep 60 = .ok (.aload_n 0, 1) := by decide +kernel
theorem dX10_keep_61 : decode cX10_keep 61 = .ok (.getfield 60, 3) := by decide +kernel
theorem dX10_keep_64 : decode cX10_keep 64 = .ok (.iload_n 1, 1) := by decide +kernel
theorem dX10_keep_65 : decode cX10_keep 65 = .ok (.iconst 1, 1) := by decide +kernel
theorem dX10_keep_66 : decode cX10_keep 66 = .ok (.bastore, 1) := by decide +kernel
theorem dX10_keep_67 : decode cX10_keep 67 = .ok (.aload_n 0, 1) := by decide +kernel
theorem dX10_keep_68 : decode cX10_keep 68 = .ok (.iconst 0, 1) := by decide +kernel
theorem dX10_keep_69 : decode cX10_keep 69 = .ok (.putfield 130, 3) := by decide +kernel
theorem dX10_keep_72 : decode cX10_keep 72 = .ok (.iconst 1, 1) := by decide +kernel
theorem dX10_keep_73 : decode cX10_keep 73 = .ok (.ireturn, 1) := by decide +kernel
theorem dX10_goBack_0 : decode cX10_goBack 0 = .ok (.iload_n 1, 1) := by decide +kernel
theorem dX10_goBack_1 : decode cX10_goBack 1 = .ok (.i2l, 1) := by decide +kernel
theorem dX10_goBack_2 : decode cX10_goBack 2 = .ok (.lconst 0, 1) := by decide +kernel
theorem dX10_goBack_3 : decode cX10_goBack 3 = .ok (.lconst 1, 1) := by decide +kernel
theorem dX10_goBack_4 : decode cX10_goBack 4 = .ok (.invokestatic 66, 3) := by decide +kernel
theorem dX10_goBack_7 : decode cX10_goBack 7 = .ok (.ifCond .ne 6, 3) := by decide +kernel
theorem dX10_goBack_10 : decode cX10_goBack 10 = .ok (.ldc 152, 2) := by decide +kernel
theorem dX10_goBack_12 : decode cX10_goBack 12 = .ok (.ireturn, 1) := by decide +kernel
theorem dX10_goBack_13 : decode cX10_goBack 13 = .ok (.aload_n 0, 1) := by decide +kernel
theorem dX10_goBack_14 : decode cX10_goBack 14 = .ok (.getfield 60, 3) := by decide +kernel
theorem dX10_goBack_17 : decode cX10_goBack 17 = .ok (.iload_n 1, 1) := by decide +kernel
theorem dX10_goBack_18 : decode cX10_goBack 18 = .ok (.baload, 1) := by decide +kernel
theorem dX10_goBack_19 : decode cX10_goBack 19 = .ok (.ifCond .ne 6, 3) := by decide +kernel
theorem dX10_goBack_22 : decode cX10_goBack 22 = .ok (.ldc 171, 2) := by decide +kernel
theorem dX10_goBack_24 : decode cX10_goBack 24 = .ok (.ireturn, 1) := by decide +kernel
theorem dX10_goBack_25 : decode cX10_goBack 25 = .ok (.iconst 0, 1) := by decide +kernel
theorem dX10_goBack_26 : decode cX10_goBack 26 = .ok (.istore_n 2, 1) := by decide +kernel
theorem dX10_goBack_27 : decode cX10_goBack 27 = .ok (.iload_n 2, 1) := by decide +kernel
theorem dX10_goBack_28 : decode cX10_goBack 28 = .ok (.bipush 81, 2) := by decide +kernel
theorem dX10_goBack_30 : decode cX10_goBack 30 = .ok (.if_icmp .ge 26, 3) := by decide +kernel
theorem dX10_goBack_33 : decode cX10_goBack 33 = .ok (.aload_n 0, 1) := by decide +kernel
theorem dX10_goBack_34 : decode cX10_goBack 34 = .ok (.getfield 13, 3) := by decide +kernel
theorem dX10_goBack_37 : decode cX10_goBack 37 = .ok (.iload_n 2, 1) := by decide +kernel
theorem dX10_goBack_38 : decode cX10_goBack 38 = .ok (.aload_n 0, 1) := by decide +kernel
theorem dX10_goBack_39 : decode cX10_goBack 39 = .ok (.getfield 57, 3) := by decide +kernel
theorem dX10_goBack_42 : decode cX10_goBack 42 = .ok (.bipush 82, 2) := by decide +kernel
theorem dX10_goBack_44 : decode cX10_goBack 44 = .ok (.iload_n 1, 1) := by decide +kernel
theorem dX10_goBack_45 : decode cX10_goBack 45 = .ok (.imul, 1) := by decide +kernel
theorem dX10_goBack_46 : decode cX10_goBack 46 = .ok (.iload_n 2, 1) := by decide +kernel
theorem dX10_goBack_47 : decode cX10_goBack 47 = .ok (.iadd, 1) := by decide +kernel
theorem dX10_goBack_48 : decode cX10_goBack 48 = .ok (.iaload, 1) := by decide +kernel
theorem dX10_goBack_49 : decode cX10_goBack 49 = .ok (.iastore, 1) := by decide +kernel
theorem dX10_goBack_50 : decode cX10_goBack 50 = .ok (.iinc 2 1, 3) := by decide +kernel
theorem dX10_goBack_53 : decode cX10_goBack 53 = .ok (.goto (-26), 3) := by decide +kernel
theorem dX10_goBack_56 : decode cX10_goBack 56 = .ok (.aload_n 0, 1) := by decide +kernel
theorem dX10_goBack_57 : decode cX10_goBack 57 = .ok (.aload_n 0, 1) := by decide +kernel
theorem dX10_goBack_58 : decode cX10_goBack 58 = .ok (.getfield 57, 3) := by decide +kernel
theorem dX10_goBack_61 : decode cX10_goBack 61 = .ok (.bipush 82, 2) := by decide +kernel
theorem dX10_goBack_63 : decode cX10_goBack 63 = .ok (.iload_n 1, 1) := by decide +kernel
theorem dX10_goBack_64 : decode cX10_goBack 64 = .ok (.imul, 1) := by decide +kernel
theorem dX10_goBack_65 : decode cX10_goBack 65 = .ok (.bipush 81, 2) := by decide +kernel
theorem dX10_goBack_67 : decode cX10_goBack 67 = .ok (.iadd, 1) := by decide +kernel
theorem dX10_goBack_68 : decode cX10_goBack 68 = .ok (.iaload, 1) := by decide +kernel
theorem dX10_goBack_69 : decode cX10_goBack 69 = .ok (.putfield 193, 3) := by decide +kernel
theorem dX10_goBack_72 : decode cX10_goBack 72 = .ok (.aload_n 0, 1) := by decide +kernel
theorem dX10_goBack_73 : decode cX10_goBack 73 = .ok (.iconst 0, 1) := by decide +kernel
theorem dX10_goBack_74 : decode cX10_goBack 74 = .ok (.putfield 130, 3) := by decide +kernel
theorem dX10_goBack_77 : decode cX10_goBack 77 = .ok (.iconst 1, 1) := by decide +kernel
theorem dX10_goBack_78 : decode cX10_goBack 78 = .ok (.ireturn, 1) := by decide +kernel
