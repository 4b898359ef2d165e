theorem dX0_init_0 : decode cX0_init 0 = .ok (.aload_n 0, 1) := by decide +kernel
theorem dX0_init_1 : decode cX0_init 1 = .ok (.invokespecial 3, 3) := by decide +kernel
theorem dX0_init_4 : decode cX0_init 4 = .ok (.aload_n 0, 1) := by decide +kernel
theorem dX0_init_5 : decode cX0_init 5 = .ok (.bipush 15, 2) := by decide +kernel
theorem dX0_init_7 : decode cX0_init 7 = .ok (.newarray .int, 2) := by decide +kernel
theorem dX0_init_9 : decode cX0_init 9 = .ok (.putfield 9, 3) := by decide +kernel
theorem dX0_init_12 : decode cX0_init 12 = .ok (.aload_n 0, 1) := by decide +kernel
theorem dX0_init_13 : decode cX0_init 13 = .ok (.bipush 15, 2) := by decide +kernel
theorem dX0_init_15 : decode cX0_init 15 = .ok (.newarray .int, 2) := by decide +kernel
theorem dX0_init_17 : decode cX0_init 17 = .ok (.putfield 15, 3) := by decide +kernel
theorem dX0_init_20 : decode cX0_init 20 = .ok (.return_, 1) := by decide +kernel
theorem dX0_empty_0 : decode cX0_empty 0 = .ok (.aload_n 0, 1) := by decide +kernel
theorem dX0_empty_1 : decode cX0_empty 1 = .ok (.iconst 0, 1) := by decide +kernel
theorem dX0_empty_2 : decode cX0_empty 2 = .ok (.putfield 18, 3) := by decide +kernel
theorem dX0_empty_5 : decode cX0_empty 5 = .ok (.return_, 1) := by decide +kernel
theorem dX0_hasRoom_0 : decode cX0_hasRoom 0 = .ok (.aload_n 0, 1) := by decide +kernel
theorem dX0_hasRoom_1 : decode cX0_hasRoom 1 = .ok (.getfield 18, 3) := by decide +kernel
theorem dX0_hasRoom_4 : decode cX0_hasRoom 4 = .ok (.bipush 15, 2) := by decide +kernel
theorem dX0_hasRoom_6 : decode cX0_hasRoom 6 = .ok (.if_icmp .ge 7, 3) := by decide +kernel
theorem dX0_hasRoom_9 : decode cX0_hasRoom 9 = .ok (.iconst 1, 1) := by decide +kernel
theorem dX0_hasRoom_10 : decode cX0_hasRoom 10 = .ok (.goto 4, 3) := by decide +kernel
theorem dX0_hasRoom_13 : decode cX0_hasRoom 13 = .ok (.iconst 0, 1) := by decide +kernel
theorem dX0_hasRoom_14 : decode cX0_hasRoom 14 = .ok (.ireturn, 1) := by decide +kernel
theorem dX0_add_0 : decode cX0_add 0 = .ok (.aload_n 0, 1) := by decide +kernel
theorem dX0_add_1 : decode cX0_add 1 = .ok (.getfield 18, 3) := by decide +kernel
theorem dX0_add_4 : decode cX0_add 4 = .ok (.iconst 0, 1) := by decide +kernel
theorem dX0_add_5 : decode cX0_add 5 = .ok (.bipush 14, 2) := by decide +kernel
theorem dX0_add_7 : decode cX0_add 7 = .ok (.invokestatic 22, 3) := by decide +kernel
theorem dX0_add_10 : decode cX0_add 10 = .ok (.ifCond .eq 33, 3) := by decide +kernel
theorem dX0_add_13 : decode cX0_add 13 = .ok (.aload_n 0, 1) := by decide +kernel
theorem dX0_add_14 : decode cX0_add 14 = .ok (.getfield 9, 3) := by decide +kernel
theorem dX0_add_17 : decode cX0_add 17 = .ok (.aload_n 0, 1) := by decide +kernel
theorem dX0_add_18 : decode cX0_add 18 = .ok (.getfield 18, 3) := by decide +kernel
theorem dX0_add_21 : decode cX0_add 21 = .ok (.iload_n 1, 1) := by decide +kernel
theorem dX0_add_22 : decode cX0_add 22 = .ok (.iastore, 1) := by decide +kernel
theorem dX0_add_23 : decode cX0_add 23 = .ok (.aload_n 0, 1) := by decide +kernel
theorem dX0_add_24 : decode cX0_add 24 = .ok (.getfield 15, 3) := by decide +kernel
theorem dX0_add_27 : decode cX0_add 27 = .ok (.aload_n 0, 1) := by decide +kernel
theorem dX0_add_28 : decode cX0_add 28 = .ok (.getfield 18, 3) := by decide +kernel
theorem dX0_add_31 : decode cX0_add 31 = .ok (.iload_n 2, 1) := by decide +kernel
theorem dX0_add_32 : decode cX0_add 32 = .ok (.iastore, 1) := by decide +kernel
theorem dX0_add_33 : decode cX0_add 33 = .ok (.aload_n 0, 1) := by decide +kernel
theorem dX0_add_34 : decode cX0_add 34 = .ok (.dup, 1) := by decide +kernel
theorem dX0_add_35 : decode cX0_add 35 = .ok (.getfield 18, 3) := by decide +kernel
theorem dX0_add_38 : decode cX0_add 38 = .ok (.iconst 1, 1) := by decide +kernel
theorem dX0_add_39 : decode cX0_add 39 = .ok (.iadd, 1) := by decide +kernel
theorem dX0_add_40 : decode cX0_add 40 = .ok (.putfield 18, 3) := by decide +kernel
theorem dX0_add_43 : decode cX0_add 43 = .ok (.aload_n 0, 1) := by decide +kernel
theorem dX0_add_44 : decode cX0_add 44 = .ok (.getfield 18, 3) := by decide +kernel
theorem dX0_add_47 : decode cX0_add 47 = .ok (.ireturn, 1) := by decide +kernel
theorem dX0_firstWrong_0 : decode cX0_firstWrong 0 = .ok (.iconst 0, 1) := by decide +kernel
theorem dX0_firstWrong_1 : decode cX0_firstWrong 1 = .ok (.istore_n 2, 1) := by decide +kernel
theorem dX0_firstWrong_2 : decode cX0_firstWrong 2 = .ok (.iload_n 2, 1) := by decide +kernel
theorem dX0_firstWrong_3 : decode cX0_firstWrong 3 = .ok (.aload_n 0, 1) := by decide +kernel
theorem dX0_firstWrong_4 : decode cX0_firstWrong 4 = .ok (.getfield 18, 3) := by decide +kernel
theorem dX0_firstWrong_7 : decode cX0_firstWrong 7 = .ok (.if_icmp .ge 36, 3) := by decide +kernel
theorem dX0_firstWrong_10 : decode cX0_firstWrong 10 = .ok (.iload_n 2, 1) := by decide +kernel
theorem dX0_firstWrong_11 : decode cX0_firstWrong 11 = .ok (.bipush 15, 2) := by decide +kernel
theorem dX0_firstWrong_13 : decode cX0_firstWrong 13 = .ok (.if_icmp .ge 30, 3) := by decide +kernel
theorem dX0_firstWrong_16 : decode cX0_firstWrong 16 = .ok (.aload_n 1, 1) := by decide +kernel
theorem dX0_firstWrong_17 : decode cX0_firstWrong 17 = .ok (.aload_n 0, 1) := by decide +kernel
theorem dX0_firstWrong_18 : decode cX0_firstWrong 18 = .ok (.getfield 9, 3) := by decide +kernel
theorem dX0_firstWrong_21 : decode cX0_firstWrong 21 = .ok (.iload_n 2, 1) := by decide +kernel
theorem dX0_firstWrong_22 : decode cX0_firstWrong 22 = .ok (.iaload, 1) := by decide +kernel
theorem dX0_firstWrong_23 : decode cX0_firstWrong 23 = .ok (.invokevirtual 26, 3) := by decide +kernel
theorem dX0_firstWrong_26 : decode cX0_firstWrong 26 = .ok (.aload_n 0, 1) := by decide +kernel
theorem dX0_firstWrong_27 : decode cX0_firstWrong 27 = .ok (.getfield 15, 3) := by decide +kernel
theorem dX0_firstWrong_30 : decode cX0_firstWrong 30 = .ok (.iload_n 2, 1) := by decide +kernel
theorem dX0_firstWrong_31 : decode cX0_firstWrong 31 = .ok (.iaload, 1) := by decide +kernel
theorem dX0_firstWrong_32 : decode cX0_firstWrong 32 = .ok (.if_icmp .eq 5, 3) := by decide +kernel
theorem dX0_firstWrong_35 : decode cX0_firstWrong 35 = .ok (.iload_n 2, 1) := by decide +kernel
theorem dX0_firstWrong_36 : decode cX0_firstWrong 36 = .ok (.ireturn, 1) := by decide +kernel
theorem dX0_firstWrong_37 : decode cX0_firstWrong 37 = .ok (.iinc 2 1, 3) := by decide +kernel
theorem dX0_firstWrong_40 : decode cX0_firstWrong 40 = .ok (.goto (-38), 3) := by decide +kernel
theorem dX0_firstWrong_43 : decode cX0_firstWrong 43 = .ok (.iconst (-1), 1) := by decide +kernel
theorem dX0_firstWrong_44 : decode cX0_firstWrong 44 = .ok (.ireturn, 1) := by decide +kernel
theorem dX1_init_0 : decode cX1_init 0 = .ok (.aload_n 0, 1) := by decide +kernel
theorem dX1_init_1 : decode cX1_init 1 = .ok (.invokespecial 1, 3) := by decide +kernel
theorem dX1_init_4 : decode cX1_init 4 = .ok (.return_, 1) := by decide +kernel
theorem dX1_drawOf_0 : decode cX1_drawOf 0 = .ok (.aload_n 0, 1) := by decide +kernel
theorem dX1_drawOf_1 : decode cX1_drawOf 1 = .ok (.aload_n 0, 1) := by decide +kernel
theorem dX1_drawOf_2 : decode cX1_drawOf 2 = .ok (.getfield 7, 3) := by decide +kernel
theorem dX1_drawOf_5 : decode cX1_drawOf 5 = .ok (.ldc 13, 2) := by decide +kernel
theorem dX1_drawOf_7 : decode cX1_drawOf 7 = .ok (.imul, 1) := by decide +kernel
theorem dX1_drawOf_8 : decode cX1_drawOf 8 = .ok (.sipush 12345, 3) := by decide +kernel
theorem dX1_drawOf_11 : decode cX1_drawOf 11 = .ok (.iadd, 1) := by decide +kernel
theorem dX1_drawOf_12 : decode cX1_drawOf 12 = .ok (.ldc 14, 2) := by decide +kernel
theorem dX1_drawOf_14 : decode cX1_drawOf 14 = .ok (.iand, 1) := by decide +kernel
theorem dX1_drawOf_15 : decode cX1_drawOf 15 = .ok (.putfield 7, 3) := by decide +kernel
theorem dX1_drawOf_18 : decode cX1_drawOf 18 = .ok (.iload_n 1, 1) := by decide +kernel
theorem dX1_drawOf_19 : decode cX1_drawOf 19 = .ok (.ifCond .le 15, 3) := by decide +kernel
theorem dX1_drawOf_22 : decode cX1_drawOf 22 = .ok (.aload_n 0, 1) := by decide +kernel
theorem dX1_drawOf_23 : decode cX1_drawOf 23 = .ok (.getfield 7, 3) := by decide +kernel
theorem dX1_drawOf_26 : decode cX1_drawOf 26 = .ok (.ldc 15, 2) := by decide +kernel
theorem dX1_drawOf_28 : decode cX1_drawOf 28 = .ok (.idiv, 1) := by decide +kernel
theorem dX1_drawOf_29 : decode cX1_drawOf 29 = .ok (.iload_n 1, 1) := by decide +kernel
theorem dX1_drawOf_30 : decode cX1_drawOf 30 = .ok (.irem, 1) := by decide +kernel
theorem dX1_drawOf_31 : decode cX1_drawOf 31 = .ok (.goto 4, 3) := by decide +kernel
theorem dX1_drawOf_34 : decode cX1_drawOf 34 = .ok (.iconst 0, 1) := by decide +kernel
theorem dX1_drawOf_35 : decode cX1_drawOf 35 = .ok (.ireturn, 1) := by decide +kernel
theorem dX2_apart_0 : decode cX2_apart 0 = .ok (.iload_n 0, 1) := by decide +kernel
theorem dX2_apart_1 : decode cX2_apart 1 = .ok (.iload_n 1, 1) := by decide +kernel
theorem dX2_apart_2 : decode cX2_apart 2 = .ok (.ixor, 1) := by decide +kernel
theorem dX2_apart_3 : decode cX2_apart 3 = .ok (.invokestatic 9, 3) := by decide +kernel
theorem dX2_apart_6 : decode cX2_apart 6 = .ok (.ireturn, 1) := by decide +kernel
theorem dX2_apartOf_0 : decode cX2_apartOf 0 = .ok (.iload_n 1, 1) := by decide +kernel
theorem dX2_apartOf_1 : decode cX2_apartOf 1 = .ok (.aload_n 0, 1) := by decide +kernel
theorem dX2_apartOf_2 : decode cX2_apartOf 2 = .ok (.iload_n 2, 1) := by decide +kernel
theorem dX2_apartOf_3 : decode cX2_apartOf 3 = .ok (.invokevirtual 15, 3) := by decide +kernel
theorem dX2_apartOf_6 : decode cX2_apartOf 6 = .ok (.invokestatic 20, 3) := by decide +kernel
theorem dX2_apartOf_9 : decode cX2_apartOf 9 = .ok (.ireturn, 1) := by decide +kernel
theorem dX2_pick_0 : decode cX2_pick 0 = .ok (.iconst (-1), 1) := by decide +kernel
theorem dX2_pick_1 : decode cX2_pick 1 = .ok (.istore_n 3, 1) := by decide +kernel
theorem dX2_pick_2 : decode cX2_pick 2 = .ok (.bipush 9, 2) := by decide +kernel
theorem dX2_pick_4 : decode cX2_pick 4 = .ok (.istore 4, 2) := by decide +kernel
theorem dX2_pick_6 : decode cX2_pick 6 = .ok (.iconst 0, 1) := by decide +kernel
theorem dX2_pick_7 : decode cX2_pick 7 = .ok (.istore 5, 2) := by decide +kernel
theorem dX2_pick_9 : decode cX2_pick 9 = .ok (.iload 5, 2) := by decide +kernel
theorem dX2_pick_11 : decode cX2_pick 11 = .ok (.aload_n 0, 1) := by decide +kernel
theorem dX2_pick_12 : decode cX2_pick 12 = .ok (.getfield 26, 3) := by decide +kernel
theorem dX2_pick_15 : decode cX2_pick 15 = .ok (.if_icmp .ge 42, 3) := by decide +kernel
theorem dX2_pick_18 : decode cX2_pick 18 = .ok (.iload_n 2, 1) := by decide +kernel
theorem dX2_pick_19 : decode cX2_pick 19 = .ok (.iload 5, 2) := by decide +kernel
theorem dX2_pick_21 : decode cX2_pick 21 = .ok (.invokestatic 30, 3) := by decide +kernel
theorem dX2_pick_24 : decode cX2_pick 24 = .ok (.ifCond .eq 27, 3) := by decide +kernel
theorem dX2_pick_27 : decode cX2_pick 27 = .ok (.aload_n 0, 1) := by decide +kernel
theorem dX2_pick_28 : decode cX2_pick 28 = .ok (.iload_n 1, 1) := by decide +kernel
theorem dX2_pick_29 : decode cX2_pick 29 = .ok (.iload 5, 2) := by decide +kernel
theorem dX2_pick_31 : decode cX2_pick 31 = .ok (.invokestatic 34, 3) := by decide +kernel
theorem dX2_pick_34 : decode cX2_pick 34 = .ok (.iload 4, 2) := by decide +kernel
theorem dX2_pick_36 : decode cX2_pick 36 = .ok (.if_icmp .ge 15, 3) := by decide +kernel
theorem dX2_pick_39 : decode cX2_pick 39 = .ok (.aload_n 0, 1) := by decide +kernel
theorem dX2_pick_40 : decode cX2_pick 40 = .ok (.iload_n 1, 1) := by decide +kernel
theorem dX2_pick_41 : decode cX2_pick 41 = .ok (.iload 5, 2) := by decide +kernel
theorem dX2_pick_43 : decode cX2_pick 43 = .ok (.invokestatic 34, 3) := by decide +kernel
theorem dX2_pick_46 : decode cX2_pick 46 = .ok (.istore 4, 2) := by decide +kernel
theorem dX2_pick_48 : decode cX2_pick 48 = .ok (.iload 5, 2) := by decide +kernel
theorem dX2_pick_50 : decode cX2_pick 50 = .ok (.istore_n 3, 1) := by decide +kernel
theorem dX2_pick_51 : decode cX2_pick 51 = .ok (.iinc 5 1, 3) := by decide +kernel
theorem dX2_pick_54 : decode cX2_pick 54 = .ok (.goto (-45), 3) := by decide +kernel
theorem dX2_pick_57 : decode cX2_pick 57 = .ok (.iload_n 3, 1) := by decide +kernel
theorem dX2_pick_58 : decode cX2_pick 58 = .ok (.ireturn, 1) := by decide +kernel
theorem dX2_sureness_0 : decode cX2_sureness 0 = .ok (.aload_n 0, 1) := by decide +kernel
theorem dX2_sureness_1 : decode cX2_sureness 1 = .ok (.iload_n 1, 1) := by decide +kernel
theorem dX2_sureness_2 : decode cX2_sureness 2 = .ok (.iload_n 2, 1) := by decide +kernel
theorem dX2_sureness_3 : decode cX2_sureness 3 = .ok (.iconst 1, 1) := by decide +kernel
theorem dX2_sureness_4 : decode cX2_sureness 4 = .ok (.iload_n 3, 1) := by decide +kernel
theorem dX2_sureness_5 : decode cX2_sureness 5 = .ok (.ishl, 1) := by decide +kernel
theorem dX2_sureness_6 : decode cX2_sureness 6 = .ok (.iconst (-1), 1) := by decide +kernel
theorem dX2_sureness_7 : decode cX2_sureness 7 = .ok (.ixor, 1) := by decide +kernel
theorem dX2_sureness_8 : decode cX2_sureness 8 = .ok (.iand, 1) := by decide +kernel
theorem dX2_sureness_9 : decode cX2_sureness 9 = .ok (.invokestatic 38, 3) := by decide +kernel
theorem dX2_sureness_12 : decode cX2_sureness 12 = .ok (.istore 4, 2) := by decide +kernel
theorem dX2_sureness_14 : decode cX2_sureness 14 = .ok (.aload_n 0, 1) := by decide +kernel
theorem dX2_sureness_15 : decode cX2_sureness 15 = .ok (.iload_n 1, 1) := by decide +kernel
theorem dX2_sureness_16 : decode cX2_sureness 16 = .ok (.iload_n 3, 1) := by decide +kernel
theorem dX2_sureness_17 : decode cX2_sureness 17 = .ok (.aload_n 0, 1) := by decide +kernel
theorem dX2_sureness_18 : decode cX2_sureness 18 = .ok (.iload_n 3, 1) := by decide +kernel
theorem dX2_sureness_19 : decode cX2_sureness 19 = .ok (.invokevirtual 15, 3) := by decide +kernel
theorem dX2_sureness_22 : decode cX2_sureness 22 = .ok (.iload 4, 2) := by decide +kernel
theorem dX2_sureness_24 : decode cX2_sureness 24 = .ok (.invokestatic 41, 3) := by decide +kernel
theorem dX2_sureness_27 : decode cX2_sureness 27 = .ok (.ireturn, 1) := by decide +kernel
theorem dX2_lead_0 : decode cX2_lead 0 = .ok (.iload_n 1, 1) := by decide +kernel
theorem dX2_lead_1 : decode cX2_lead 1 = .ok (.iload_n 3, 1) := by decide +kernel
theorem dX2_lead_2 : decode cX2_lead 2 = .ok (.invokestatic 20, 3) := by decide +kernel
theorem dX2_lead_5 : decode cX2_lead 5 = .ok (.istore 5, 2) := by decide +kernel
theorem dX2_lead_7 : decode cX2_lead 7 = .ok (.aload_n 0, 1) := by decide +kernel
theorem dX2_lead_8 : decode cX2_lead 8 = .ok (.iload_n 1, 1) := by decide +kernel
theorem dX2_lead_9 : decode cX2_lead 9 = .ok (.iload 4, 2) := by decide +kernel
theorem dX2_lead_11 : decode cX2_lead 11 = .ok (.invokestatic 34, 3) := by decide +kernel
theorem dX2_lead_14 : decode cX2_lead 14 = .ok (.istore 6, 2) := by decide +kernel
theorem dX2_lead_16 : decode cX2_lead 16 = .ok (.iload 5, 2) := by decide +kernel
theorem dX2_lead_18 : decode cX2_lead 18 = .ok (.iload 6, 2) := by decide +kernel
theorem dX2_lead_20 : decode cX2_lead 20 = .ok (.if_icmp .lt 16, 3) := by decide +kernel
theorem dX2_lead_23 : decode cX2_lead 23 = .ok (.iload 5, 2) := by decide +kernel
theorem dX2_lead_25 : decode cX2_lead 25 = .ok (.iload 6, 2) := by decide +kernel
theorem dX2_lead_27 : decode cX2_lead 27 = .ok (.if_icmp .ne 13, 3) := by decide +kernel
theorem dX2_lead_30 : decode cX2_lead 30 = .ok (.iload_n 2, 1) := by decide +kernel
theorem dX2_lead_31 : decode cX2_lead 31 = .ok (.iload 4, 2) := by decide +kernel
theorem dX2_lead_33 : decode cX2_lead 33 = .ok (.if_icmp .ge 7, 3) := by decide +kernel
theorem dX2_lead_36 : decode cX2_lead 36 = .ok (.iconst 1, 1) := by decide +kernel
theorem dX2_lead_37 : decode cX2_lead 37 = .ok (.goto 4, 3) := by decide +kernel
theorem dX2_lead_40 : decode cX2_lead 40 = .ok (.iconst 0, 1) := by decide +kernel
theorem dX2_lead_41 : decode cX2_lead 41 = .ok (.istore 7, 2) := by decide +kernel
theorem dX2_lead_43 : decode cX2_lead 43 = .ok (.iload 7, 2) := by decide +kernel
theorem dX2_lead_45 : decode cX2_lead 45 = .ok (.ifCond .eq 13, 3) := by decide +kernel
theorem dX2_lead_48 : decode cX2_lead 48 = .ok (.iconst 1, 1) := by decide +kernel
theorem dX2_lead_49 : decode cX2_lead 49 = .ok (.iload 6, 2) := by decide +kernel
theorem dX2_lead_51 : decode cX2_lead 51 = .ok (.iadd, 1) := by decide +kernel
theorem dX2_lead_52 : decode cX2_lead 52 = .ok (.iload 5, 2) := by decide +kernel
theorem dX2_lead_54 : decode cX2_lead 54 = .ok (.isub, 1) := by decide +kernel
theorem dX2_lead_55 : decode cX2_lead 55 = .ok (.goto 4, 3) := by decide +kernel
theorem dX2_lead_58 : decode cX2_lead 58 = .ok (.iconst 0, 1) := by decide +kernel
theorem dX2_lead_59 : decode cX2_lead 59 = .ok (.ireturn, 1) := by decide +kernel
theorem dX2_oddsOf_0 : decode cX2_oddsOf 0 = .ok (.iconst 0, 1) := by decide +kernel
theorem dX2_oddsOf_1 : decode cX2_oddsOf 1 = .ok (.istore 4, 2) := by decide +kernel
theorem dX2_oddsOf_3 : decode cX2_oddsOf 3 = .ok (.iconst 0, 1) := by decide +kernel
theorem dX2_oddsOf_4 : decode cX2_oddsOf 4 = .ok (.istore 5, 2) := by decide +kernel
theorem dX2_oddsOf_6 : decode cX2_oddsOf 6 = .ok (.iload 5, 2) := by decide +kernel
theorem dX2_oddsOf_8 : decode cX2_oddsOf 8 = .ok (.aload_n 0, 1) := by decide +kernel
theorem dX2_oddsOf_9 : decode cX2_oddsOf 9 = .ok (.getfield 26, 3) := by decide +kernel
theorem dX2_oddsOf_12 : decode cX2_oddsOf 12 = .ok (.if_icmp .ge 22, 3) := by decide +kernel
theorem dX2_oddsOf_15 : decode cX2_oddsOf 15 = .ok (.iload 4, 2) := by decide +kernel
theorem dX2_oddsOf_17 : decode cX2_oddsOf 17 = .ok (.aload_n 0, 1) := by decide +kernel
theorem dX2_oddsOf_18 : decode cX2_oddsOf 18 = .ok (.iload_n 1, 1) := by decide +kernel
theorem dX2_oddsOf_19 : decode cX2_oddsOf 19 = .ok (.iload_n 2, 1) := by decide +kernel
theorem dX2_oddsOf_20 : decode cX2_oddsOf 20 = .ok (.iload 5, 2) := by decide +kernel
theorem dX2_oddsOf_22 : decode cX2_oddsOf 22 = .ok (.invokestatic 45, 3) := by decide +kernel
theorem dX2_oddsOf_25 : decode cX2_oddsOf 25 = .ok (.iadd, 1) := by decide +kernel
theorem dX2_oddsOf_26 : decode cX2_oddsOf 26 = .ok (.istore 4, 2) := by decide +kernel
theorem dX2_oddsOf_28 : decode cX2_oddsOf 28 = .ok (.iinc 5 1, 3) := by decide +kernel
theorem dX2_oddsOf_31 : decode cX2_oddsOf 31 = .ok (.goto (-25), 3) := by decide +kernel
theorem dX2_oddsOf_34 : decode cX2_oddsOf 34 = .ok (.iload 4, 2) := by decide +kernel
theorem dX2_oddsOf_36 : decode cX2_oddsOf 36 = .ok (.ifCond .le 19, 3) := by decide +kernel
theorem dX2_oddsOf_39 : decode cX2_oddsOf 39 = .ok (.aload_n 0, 1) := by decide +kernel
theorem dX2_oddsOf_40 : decode cX2_oddsOf 40 = .ok (.iload_n 1, 1) := by decide +kernel
theorem dX2_oddsOf_41 : decode cX2_oddsOf 41 = .ok (.iload_n 2, 1) := by decide +kernel
theorem dX2_oddsOf_42 : decode cX2_oddsOf 42 = .ok (.iload_n 3, 1) := by decide +kernel
theorem dX2_oddsOf_43 : decode cX2_oddsOf 43 = .ok (.invokestatic 45, 3) := by decide +kernel
theorem dX2_oddsOf_46 : decode cX2_oddsOf 46 = .ok (.ldc 49, 2) := by decide +kernel
theorem dX2_oddsOf_48 : decode cX2_oddsOf 48 = .ok (.imul, 1) := by decide +kernel
theorem dX2_oddsOf_49 : decode cX2_oddsOf 49 = .ok (.iload 4, 2) := by decide +kernel
theorem dX2_oddsOf_51 : decode cX2_oddsOf 51 = .ok (.idiv, 1) := by decide +kernel
theorem dX2_oddsOf_52 : decode cX2_oddsOf 52 = .ok (.goto 4, 3) := by decide +kernel
theorem dX2_oddsOf_55 : decode cX2_oddsOf 55 = .ok (.iconst 0, 1) := by decide +kernel
theorem dX2_oddsOf_56 : decode cX2_oddsOf 56 = .ok (.ireturn, 1) := by decide +kernel
theorem dX2_weightIn_0 : decode cX2_weightIn 0 = .ok (.iload_n 2, 1) := by decide +kernel
theorem dX2_weightIn_1 : decode cX2_weightIn 1 = .ok (.iload_n 3, 1) := by decide +kernel
theorem dX2_weightIn_2 : decode cX2_weightIn 2 = .ok (.invokestatic 30, 3) := by decide +kernel
theorem dX2_weightIn_5 : decode cX2_weightIn 5 = .ok (.ifCond .eq 15, 3) := by decide +kernel
theorem dX2_weightIn_8 : decode cX2_weightIn 8 = .ok (.bipush 9, 2) := by decide +kernel
theorem dX2_weightIn_10 : decode cX2_weightIn 10 = .ok (.aload_n 0, 1) := by decide +kernel
theorem dX2_weightIn_11 : decode cX2_weightIn 11 = .ok (.iload_n 1, 1) := by decide +kernel
theorem dX2_weightIn_12 : decode cX2_weightIn 12 = .ok (.iload_n 3, 1) := by decide +kernel
theorem dX2_weightIn_13 : decode cX2_weightIn 13 = .ok (.invokestatic 34, 3) := by decide +kernel
theorem dX2_weightIn_16 : decode cX2_weightIn 16 = .ok (.isub, 1) := by decide +kernel
theorem dX2_weightIn_17 : decode cX2_weightIn 17 = .ok (.goto 4, 3) := by decide +kernel
theorem dX2_weightIn_20 : decode cX2_weightIn 20 = .ok (.iconst 0, 1) := by decide +kernel
theorem dX2_weightIn_21 : decode cX2_weightIn 21 = .ok (.ireturn, 1) := by decide +kernel
theorem dX2_spread_0 : decode cX2_spread 0 = .ok (.bipush 8, 2) := by decide +kernel
theorem dX2_spread_2 : decode cX2_spread 2 = .ok (.istore_n 3, 1) := by decide +kernel
theorem dX2_spread_3 : decode cX2_spread 3 = .ok (.iconst 0, 1) := by decide +kernel
theorem dX2_spread_4 : decode cX2_spread 4 = .ok (.istore 4, 2) := by decide +kernel
theorem dX2_spread_6 : decode cX2_spread 6 = .ok (.iconst 0, 1) := by decide +kernel
theorem dX2_spread_7 : decode cX2_spread 7 = .ok (.istore 5, 2) := by decide +kernel
theorem dX2_spread_9 : decode cX2_spread 9 = .ok (.iload 5, 2) := by decide +kernel
theorem dX2_spread_11 : decode cX2_spread 11 = .ok (.aload_n 0, 1) := by decide +kernel
theorem dX2_spread_12 : decode cX2_spread 12 = .ok (.getfield 26, 3) := by decide +kernel
theorem dX2_spread_15 : decode cX2_spread 15 = .ok (.if_icmp .ge 44, 3) := by decide +kernel
theorem dX2_spread_18 : decode cX2_spread 18 = .ok (.iload_n 2, 1) := by decide +kernel
theorem dX2_spread_19 : decode cX2_spread 19 = .ok (.iload 5, 2) := by decide +kernel
theorem dX2_spread_21 : decode cX2_spread 21 = .ok (.invokestatic 30, 3) := by decide +kernel
theorem dX2_spread_24 : decode cX2_spread 24 = .ok (.ifCond .eq 29, 3) := by decide +kernel
theorem dX2_spread_27 : decode cX2_spread 27 = .ok (.iload_n 3, 1) := by decide +kernel
theorem dX2_spread_28 : decode cX2_spread 28 = .ok (.aload_n 0, 1) := by decide +kernel
theorem dX2_spread_29 : decode cX2_spread 29 = .ok (.iload_n 1, 1) := by decide +kernel
theorem dX2_spread_30 : decode cX2_spread 30 = .ok (.iload 5, 2) := by decide +kernel
theorem dX2_spread_32 : decode cX2_spread 32 = .ok (.invokestatic 34, 3) := by decide +kernel
theorem dX2_spread_35 : decode cX2_spread 35 = .ok (.invokestatic 50, 3) := by decide +kernel
theorem dX2_spread_38 : decode cX2_spread 38 = .ok (.istore_n 3, 1) := by decide +kernel
theorem dX2_spread_39 : decode cX2_spread 39 = .ok (.iload 4, 2) := by decide +kernel
theorem dX2_spread_41 : decode cX2_spread 41 = .ok (.aload_n 0, 1) := by decide +kernel
theorem dX2_spread_42 : decode cX2_spread 42 = .ok (.iload_n 1, 1) := by decide +kernel
theorem dX2_spread_43 : decode cX2_spread 43 = .ok (.iload 5, 2) := by decide +kernel
theorem dX2_spread_45 : decode cX2_spread 45 = .ok (.invokestatic 34, 3) := by decide +kernel
theorem dX2_spread_48 : decode cX2_spread 48 = .ok (.invokestatic 55, 3) := by decide +kernel
theorem dX2_spread_51 : decode cX2_spread 51 = .ok (.istore 4, 2) := by decide +kernel
theorem dX2_spread_53 : decode cX2_spread 53 = .ok (.iinc 5 1, 3) := by decide +kernel
theorem dX2_spread_56 : decode cX2_spread 56 = .ok (.goto (-47), 3) := by decide +kernel
theorem dX2_spread_59 : decode cX2_spread 59 = .ok (.iload 4, 2) := by decide +kernel
theorem dX2_spread_61 : decode cX2_spread 61 = .ok (.iload_n 3, 1) := by decide +kernel
theorem dX2_spread_62 : decode cX2_spread 62 = .ok (.isub, 1) := by decide +kernel
theorem dX2_spread_63 : decode cX2_spread 63 = .ok (.ireturn, 1) := by decide +kernel
theorem dX3_init_0 : decode cX3_init 0 = .ok (.aload_n 0, 1) := by decide +kernel
theorem dX3_init_1 : decode cX3_init 1 = .ok (.invokespecial 1, 3) := by decide +kernel
theorem dX3_init_4 : decode cX3_init 4 = .ok (.aload_n 0, 1) := by decide +kernel
theorem dX3_init_5 : decode cX3_init 5 = .ok (.new 7, 3) := by decide +kernel
theorem dX3_init_8 : decode cX3_init 8 = .ok (.dup, 1) := by decide +kernel
theorem dX3_init_9 : decode cX3_init 9 = .ok (.invokespecial 9, 3) := by decide +kernel
theorem dX3_init_12 : decode cX3_init 12 = .ok (.putfield 10, 3) := by decide +kernel
theorem dX3_init_15 : decode cX3_init 15 = .ok (.return_, 1) := by decide +kernel
theorem dX3_take_0 : decode cX3_take 0 = .ok (.aload_n 0, 1) := by decide +kernel
theorem dX3_take_1 : decode cX3_take 1 = .ok (.getfield 10, 3) := by decide +kernel
theorem dX3_take_4 : decode cX3_take 4 = .ok (.aload_n 1, 1) := by decide +kernel
theorem dX3_take_5 : decode cX3_take 5 = .ok (.invokevirtual 16, 3) := by decide +kernel
theorem dX3_take_8 : decode cX3_take 8 = .ok (.aload_n 0, 1) := by decide +kernel
theorem dX3_take_9 : decode cX3_take 9 = .ok (.iload_n 2, 1) := by decide +kernel
theorem dX3_take_10 : decode cX3_take 10 = .ok (.putfield 20, 3) := by decide +kernel
theorem dX3_take_13 : decode cX3_take 13 = .ok (.aload_n 0, 1) := by decide +kernel
theorem dX3_take_14 : decode cX3_take 14 = .ok (.iconst 1, 1) := by decide +kernel
theorem dX3_take_15 : decode cX3_take 15 = .ok (.putfield 24, 3) := by decide +kernel
theorem dX3_take_18 : decode cX3_take 18 = .ok (.return_, 1) := by decide +kernel
theorem dX3_drop_0 : decode cX3_drop 0 = .ok (.aload_n 0, 1) := by decide +kernel
theorem dX3_drop_1 : decode cX3_drop 1 = .ok (.iconst 0, 1) := by decide +kernel
theorem dX3_drop_2 : decode cX3_drop 2 = .ok (.putfield 24, 3) := by decide +kernel
theorem dX3_drop_5 : decode cX3_drop 5 = .ok (.return_, 1) := by decide +kernel
theorem dX4_init_0 : decode cX4_init 0 = .ok (.aload_n 0, 1) := by decide +kernel
theorem dX4_init_1 : decode cX4_init 1 = .ok (.invokespecial 3, 3) := by decide +kernel
theorem dX4_init_4 : decode cX4_init 4 = .ok (.aload_n 0, 1) := by decide +kernel
theorem dX4_init_5 : decode cX4_init 5 = .ok (.bipush 20, 2) := by decide +kernel
theorem dX4_init_7 : decode cX4_init 7 = .ok (.anewarray 9, 3) := by decide +kernel
theorem dX4_init_10 : decode cX4_init 10 = .ok (.putfield 11, 3) := by decide +kernel
theorem dX4_init_13 : decode cX4_init 13 = .ok (.iconst 0, 1) := by decide +kernel
theorem dX4_init_14 : decode cX4_init 14 = .ok (.istore_n 1, 1) := by decide +kernel
theorem dX4_init_15 : decode cX4_init 15 = .ok (.iload_n 1, 1) := by decide +kernel
theorem dX4_init_16 : decode cX4_init 16 = .ok (.bipush 20, 2) := by decide +kernel
theorem dX4_init_18 : decode cX4_init 18 = .ok (.if_icmp .ge 22, 3) := by decide +kernel
theorem dX4_init_21 : decode cX4_init 21 = .ok (.aload_n 0, 1) := by decide +kernel
theorem dX4_init_22 : decode cX4_init 22 = .ok (.getfield 11, 3) := by decide +kernel
theorem dX4_init_25 : decode cX4_init 25 = .ok (.iload_n 1, 1) := by decide +kernel
theorem dX4_init_26 : decode cX4_init 26 = .ok (.new 9, 3) := by decide +kernel
theorem dX4_init_29 : decode cX4_init 29 = .ok (.dup, 1) := by decide +kernel
theorem dX4_init_30 : decode cX4_init 30 = .ok (.invokespecial 17, 3) := by decide +kernel
theorem dX4_init_33 : decode cX4_init 33 = .ok (.aastore, 1) := by decide +kernel
theorem dX4_init_34 : decode cX4_init 34 = .ok (.iinc 1 1, 3) := by decide +kernel
theorem dX4_init_37 : decode cX4_init 37 = .ok (.goto (-22), 3) := by decide +kernel
theorem dX4_init_40 : decode cX4_init 40 = .ok (.return_, 1) := by decide +kernel
theorem dX4_empty_0 : decode cX4_empty 0 = .ok (.aload_n 0, 1) := by decide +kernel
theorem dX4_empty_1 : decode cX4_empty 1 = .ok (.iconst 0, 1) := by decide +kernel
theorem dX4_empty_2 : decode cX4_empty 2 = .ok (.putfield 18, 3) := by decide +kernel
theorem dX4_empty_5 : decode cX4_empty 5 = .ok (.return_, 1) := by decide +kernel
theorem dX4_push_0 : decode cX4_push 0 = .ok (.aload_n 0, 1) := by decide +kernel
theorem dX4_push_1 : decode cX4_push 1 = .ok (.aload_n 0, 1) := by decide +kernel
theorem dX4_push_2 : decode cX4_push 2 = .ok (.getfield 22, 3) := by decide +kernel
theorem dX4_push_5 : decode cX4_push 5 = .ok (.invokevirtual 25, 3) := by decide +kernel
theorem dX4_push_8 : decode cX4_push 8 = .ok (.astore_n 2, 1) := by decide +kernel
theorem dX4_push_9 : decode cX4_push 9 = .ok (.aload_n 2, 1) := by decide +kernel
theorem dX4_push_10 : decode cX4_push 10 = .ok (.ifnull 36, 3) := by decide +kernel
theorem dX4_push_13 : decode cX4_push 13 = .ok (.aload_n 2, 1) := by decide +kernel
theorem dX4_push_14 : decode cX4_push 14 = .ok (.aload_n 1, 1) := by decide +kernel
theorem dX4_push_15 : decode cX4_push 15 = .ok (.invokevirtual 29, 3) := by decide +kernel
theorem dX4_push_18 : decode cX4_push 18 = .ok (.aload_n 0, 1) := by decide +kernel
theorem dX4_push_19 : decode cX4_push 19 = .ok (.aload_n 0, 1) := by decide +kernel
theorem dX4_push_20 : decode cX4_push 20 = .ok (.getfield 22, 3) := by decide +kernel
theorem dX4_push_23 : decode cX4_push 23 = .ok (.iconst 1, 1) := by decide +kernel
theorem dX4_push_24 : decode cX4_push 24 = .ok (.iadd, 1) := by decide +kernel
theorem dX4_push_25 : decode cX4_push 25 = .ok (.bipush 20, 2) := by decide +kernel
theorem dX4_push_27 : decode cX4_push 27 = .ok (.irem, 1) := by decide +kernel
theorem dX4_push_28 : decode cX4_push 28 = .ok (.putfield 22, 3) := by decide +kernel
theorem dX4_push_31 : decode cX4_push 31 = .ok (.aload_n 0, 1) := by decide +kernel
theorem dX4_push_32 : decode cX4_push 32 = .ok (.aload_n 0, 1) := by decide +kernel
theorem dX4_push_33 : decode cX4_push 33 = .ok (.getfield 18, 3) := by decide +kernel
theorem dX4_push_36 : decode cX4_push 36 = .ok (.iconst 1, 1) := by decide +kernel
theorem dX4_push_37 : decode cX4_push 37 = .ok (.iadd, 1) := by decide +kernel
theorem dX4_push_38 : decode cX4_push 38 = .ok (.bipush 20, 2) := by decide +kernel
theorem dX4_push_40 : decode cX4_push 40 = .ok (.invokestatic 33, 3) := by decide +kernel
theorem dX4_push_43 : decode cX4_push 43 = .ok (.putfield 18, 3) := by decide +kernel
theorem dX4_push_46 : decode cX4_push 46 = .ok (.return_, 1) := by decide +kernel
theorem dX4_popInto_0 : decode cX4_popInto 0 = .ok (.aload_n 0, 1) := by decide +kernel
theorem dX4_popInto_1 : decode cX4_popInto 1 = .ok (.getfield 22, 3) := by decide +kernel
theorem dX4_popInto_4 : decode cX4_popInto 4 = .ok (.bipush 20, 2) := by decide +kernel
theorem dX4_popInto_6 : decode cX4_popInto 6 = .ok (.iadd, 1) := by decide +kernel
theorem dX4_popInto_7 : decode cX4_popInto 7 = .ok (.iconst 1, 1) := by decide +kernel
theorem dX4_popInto_8 : decode cX4_popInto 8 = .ok (.isub, 1) := by decide +kernel
theorem dX4_popInto_9 : decode cX4_popInto 9 = .ok (.bipush 20, 2) := by decide +kernel
theorem dX4_popInto_11 : decode cX4_popInto 11 = .ok (.irem, 1) := by decide +kernel
theorem dX4_popInto_12 : decode cX4_popInto 12 = .ok (.istore_n 2, 1) := by decide +kernel
theorem dX4_popInto_13 : decode cX4_popInto 13 = .ok (.aload_n 0, 1) := by decide +kernel
theorem dX4_popInto_14 : decode cX4_popInto 14 = .ok (.iload_n 2, 1) := by decide +kernel
theorem dX4_popInto_15 : decode cX4_popInto 15 = .ok (.invokevirtual 25, 3) := by decide +kernel
theorem dX4_popInto_18 : decode cX4_popInto 18 = .ok (.astore_n 3, 1) := by decide +kernel
theorem dX4_popInto_19 : decode cX4_popInto 19 = .ok (.aload_n 0, 1) := by decide +kernel
theorem dX4_popInto_20 : decode cX4_popInto 20 = .ok (.getfield 18, 3) := by decide +kernel
theorem dX4_popInto_23 : decode cX4_popInto 23 = .ok (.ifCond .eq 7, 3) := by decide +kernel
theorem dX4_popInto_26 : decode cX4_popInto 26 = .ok (.aload_n 3, 1) := by decide +kernel
theorem dX4_popInto_27 : decode cX4_popInto 27 = .ok (.ifnonnull 5, 3) := by decide +kernel
theorem dX4_popInto_30 : decode cX4_popInto 30 = .ok (.iconst 0, 1) := by decide +kernel
theorem dX4_popInto_31 : decode cX4_popInto 31 = .ok (.ireturn, 1) := by decide +kernel
theorem dX4_popInto_32 : decode cX4_popInto 32 = .ok (.aload_n 1, 1) := by decide +kernel
theorem dX4_popInto_33 : decode cX4_popInto 33 = .ok (.aload_n 3, 1) := by decide +kernel
theorem dX4_popInto_34 : decode cX4_popInto 34 = .ok (.invokevirtual 29, 3) := by decide +kernel
theorem dX4_popInto_37 : decode cX4_popInto 37 = .ok (.aload_n 0, 1) := by decide +kernel
theorem dX4_popInto_38 : decode cX4_popInto 38 = .ok (.iload_n 2, 1) := by decide +kernel
theorem dX4_popInto_39 : decode cX4_popInto 39 = .ok (.putfield 22, 3) := by decide +kernel
theorem dX4_popInto_42 : decode cX4_popInto 42 = .ok (.aload_n 0, 1) := by decide +kernel
theorem dX4_popInto_43 : decode cX4_popInto 43 = .ok (.dup, 1) := by decide +kernel
theorem dX4_popInto_44 : decode cX4_popInto 44 = .ok (.getfield 18, 3) := by decide +kernel
theorem dX4_popInto_47 : decode cX4_popInto 47 = .ok (.iconst 1, 1) := by decide +kernel
theorem dX4_popInto_48 : decode cX4_popInto 48 = .ok (.isub, 1) := by decide +kernel
theorem dX4_popInto_49 : decode cX4_popInto 49 = .ok (.putfield 18, 3) := by decide +kernel
theorem dX4_popInto_52 : decode cX4_popInto 52 = .ok (.iconst 1, 1) := by decide +kernel
theorem dX4_popInto_53 : decode cX4_popInto 53 = .ok (.ireturn, 1) := by decide +kernel
theorem dX4_stateAt_0 : decode cX4_stateAt 0 = .ok (.iload_n 1, 1) := by decide +kernel
theorem dX4_stateAt_1 : decode cX4_stateAt 1 = .ok (.iconst 0, 1) := by decide +kernel
theorem dX4_stateAt_2 : decode cX4_stateAt 2 = .ok (.bipush 19, 2) := by decide +kernel
theorem dX4_stateAt_4 : decode cX4_stateAt 4 = .ok (.invokestatic 39, 3) := by decide +kernel
theorem dX4_stateAt_7 : decode cX4_stateAt 7 = .ok (.ifCond .eq 12, 3) := by decide +kernel
theorem dX4_stateAt_10 : decode cX4_stateAt 10 = .ok (.aload_n 0, 1) := by decide +kernel
theorem dX4_stateAt_11 : decode cX4_stateAt 11 = .ok (.getfield 11, 3) := by decide +kernel
theorem dX4_stateAt_14 : decode cX4_stateAt 14 = .ok (.iload_n 1, 1) := by decide +kernel
theorem dX4_stateAt_15 : decode cX4_stateAt 15 = .ok (.aaload, 1) := by decide +kernel
theorem dX4_stateAt_16 : decode cX4_stateAt 16 = .ok (.goto 4, 3) := by decide +kernel
theorem dX4_stateAt_19 : decode cX4_stateAt 19 = .ok (.aconst_null, 1) := by decide +kernel
theorem dX4_stateAt_20 : decode cX4_stateAt 20 = .ok (.areturn, 1) := by decide +kernel
theorem dX5_init_0 : decode cX5_init 0 = .ok (.aload_n 0, 1) := by decide +kernel
theorem dX5_init_1 : decode cX5_init 1 = .ok (.invokespecial 3, 3) := by decide +kernel
theorem dX5_init_4 : decode cX5_init 4 = .ok (.aload_n 0, 1) := by decide +kernel
theorem dX5_init_5 : decode cX5_init 5 = .ok (.bipush 8, 2) := by decide +kernel
theorem dX5_init_7 : decode cX5_init 7 = .ok (.newarray .int, 2) := by decide +kernel
theorem dX5_init_9 : decode cX5_init 9 = .ok (.putfield 9, 3) := by decide +kernel
theorem dX5_init_12 : decode cX5_init 12 = .ok (.aload_n 0, 1) := by decide +kernel
theorem dX5_init_13 : decode cX5_init 13 = .ok (.bipush 8, 2) := by decide +kernel
theorem dX5_init_15 : decode cX5_init 15 = .ok (.newarray .int, 2) := by decide +kernel
theorem dX5_init_17 : decode cX5_init 17 = .ok (.putfield 15, 3) := by decide +kernel
theorem dX5_init_20 : decode cX5_init 20 = .ok (.aload_n 0, 1) := by decide +kernel
theorem dX5_init_21 : decode cX5_init 21 = .ok (.bipush 8, 2) := by decide +kernel
theorem dX5_init_23 : decode cX5_init 23 = .ok (.newarray .int, 2) := by decide +kernel
theorem dX5_init_25 : decode cX5_init 25 = .ok (.putfield 18, 3) := by decide +kernel
theorem dX5_init_28 : decode cX5_init 28 = .ok (.aload_n 0, 1) := by decide +kernel
theorem dX5_init_29 : decode cX5_init 29 = .ok (.bipush 64, 2) := by decide +kernel
theorem dX5_init_31 : decode cX5_init 31 = .ok (.newarray .int, 2) := by decide +kernel
theorem dX5_init_33 : decode cX5_init 33 = .ok (.putfield 21, 3) := by decide +kernel
theorem dX5_init_36 : decode cX5_init 36 = .ok (.aload_n 0, 1) := by decide +kernel
theorem dX5_init_37 : decode cX5_init 37 = .ok (.getfield 21, 3) := by decide +kernel
theorem dX5_init_40 : decode cX5_init 40 = .ok (.iconst (-1), 1) := by decide +kernel
theorem dX5_init_41 : decode cX5_init 41 = .ok (.invokestatic 24, 3) := by decide +kernel
theorem dX5_init_44 : decode cX5_init 44 = .ok (.return_, 1) := by decide +kernel
theorem dX5_empty_0 : decode cX5_empty 0 = .ok (.aload_n 0, 1) := by decide +kernel
theorem dX5_empty_1 : decode cX5_empty 1 = .ok (.iconst 0, 1) := by decide +kernel
theorem dX5_empty_2 : decode cX5_empty 2 = .ok (.putfield 30, 3) := by decide +kernel
theorem dX5_empty_5 : decode cX5_empty 5 = .ok (.aload_n 0, 1) := by decide +kernel
theorem dX5_empty_6 : decode cX5_empty 6 = .ok (.iconst 0, 1) := by decide +kernel
theorem dX5_empty_7 : decode cX5_empty 7 = .ok (.putfield 34, 3) := by decide +kernel
theorem dX5_empty_10 : decode cX5_empty 10 = .ok (.aload_n 0, 1) := by decide +kernel
theorem dX5_empty_11 : decode cX5_empty 11 = .ok (.getfield 21, 3) := by decide +kernel
theorem dX5_empty_14 : decode cX5_empty 14 = .ok (.iconst (-1), 1) := by decide +kernel
theorem dX5_empty_15 : decode cX5_empty 15 = .ok (.invokestatic 24, 3) := by decide +kernel
theorem dX5_empty_18 : decode cX5_empty 18 = .ok (.return_, 1) := by decide +kernel
theorem dX5_become_0 : decode cX5_become 0 = .ok (.aload_n 1, 1) := by decide +kernel
theorem dX5_become_1 : decode cX5_become 1 = .ok (.getfield 9, 3) := by decide +kernel
theorem dX5_become_4 : decode cX5_become 4 = .ok (.iconst 0, 1) := by decide +kernel
theorem dX5_become_5 : decode cX5_become 5 = .ok (.aload_n 0, 1) := by decide +kernel
theorem dX5_become_6 : decode cX5_become 6 = .ok (.getfield 9, 3) := by decide +kernel
theorem dX5_become_9 : decode cX5_become 9 = .ok (.iconst 0, 1) := by decide +kernel
theorem dX5_become_10 : decode cX5_become 10 = .ok (.bipush 8, 2) := by decide +kernel
theorem dX5_become_12 : decode cX5_become 12 = .ok (.invokestatic 37, 3) := by decide +kernel
theorem dX5_become_15 : decode cX5_become 15 = .ok (.aload_n 1, 1) := by decide +kernel
theorem dX5_become_16 : decode cX5_become 16 = .ok (.getfield 15, 3) := by decide +kernel
theorem dX5_become_19 : decode cX5_become 19 = .ok (.iconst 0, 1) := by decide +kernel
theorem dX5_become_20 : decode cX5_become 20 = .ok (.aload_n 0, 1) := by decide +kernel
theorem dX5_become_21 : decode cX5_become 21 = .ok (.getfield 15, 3) := by decide +kernel
theorem dX5_become_24 : decode cX5_become 24 = .ok (.iconst 0, 1) := by decide +kernel
theorem dX5_become_25 : decode cX5_become 25 = .ok (.bipush 8, 2) := by decide +kernel
theorem dX5_become_27 : decode cX5_become 27 = .ok (.invokestatic 37, 3) := by decide +kernel
theorem dX5_become_30 : decode cX5_become 30 = .ok (.aload_n 1, 1) := by decide +kernel
theorem dX5_become_31 : decode cX5_become 31 = .ok (.getfield 18, 3) := by decide +kernel
theorem dX5_become_34 : decode cX5_become 34 = .ok (.iconst 0, 1) := by decide +kernel
theorem dX5_become_35 : decode cX5_become 35 = .ok (.aload_n 0, 1) := by decide +kernel
theorem dX5_become_36 : decode cX5_become 36 = .ok (.getfield 18, 3) := by decide +kernel
theorem dX5_become_39 : decode cX5_become 39 = .ok (.iconst 0, 1) := by decide +kernel
theorem dX5_become_40 : decode cX5_become 40 = .ok (.bipush 8, 2) := by decide +kernel
theorem dX5_become_42 : decode cX5_become 42 = .ok (.invokestatic 37, 3) := by decide +kernel
theorem dX5_become_45 : decode cX5_become 45 = .ok (.aload_n 1, 1) := by decide +kernel
theorem dX5_become_46 : decode cX5_become 46 = .ok (.getfield 21, 3) := by decide +kernel
theorem dX5_become_49 : decode cX5_become 49 = .ok (.iconst 0, 1) := by decide +kernel
theorem dX5_become_50 : decode cX5_become 50 = .ok (.aload_n 0, 1) := by decide +kernel
theorem dX5_become_51 : decode cX5_become 51 = .ok (.getfield 21, 3) := by decide +kernel
theorem dX5_become_54 : decode cX5_become 54 = .ok (.iconst 0, 1) := by decide +kernel
theorem dX5_become_55 : decode cX5_become 55 = .ok (.bipush 64, 2) := by decide +kernel
theorem dX5_become_57 : decode cX5_become 57 = .ok (.invokestatic 37, 3) := by decide +kernel
theorem dX5_become_60 : decode cX5_become 60 = .ok (.aload_n 0, 1) := by decide +kernel
theorem dX5_become_61 : decode cX5_become 61 = .ok (.aload_n 1, 1) := by decide +kernel
theorem dX5_become_62 : decode cX5_become 62 = .ok (.getfield 30, 3) := by decide +kernel
theorem dX5_become_65 : decode cX5_become 65 = .ok (.putfield 30, 3) := by decide +kernel
theorem dX5_become_68 : decode cX5_become 68 = .ok (.aload_n 0, 1) := by decide +kernel
theorem dX5_become_69 : decode cX5_become 69 = .ok (.aload_n 1, 1) := by decide +kernel
theorem dX5_become_70 : decode cX5_become 70 = .ok (.getfield 34, 3) := by decide +kernel
theorem dX5_become_73 : decode cX5_become 73 = .ok (.putfield 34, 3) := by decide +kernel
theorem dX5_become_76 : decode cX5_become 76 = .ok (.return_, 1) := by decide +kernel
theorem dX5_add_0 : decode cX5_add 0 = .ok (.aload_n 0, 1) := by decide +kernel
theorem dX5_add_1 : decode cX5_add 1 = .ok (.getfield 30, 3) := by decide +kernel
theorem dX5_add_4 : decode cX5_add 4 = .ok (.iconst 0, 1) := by decide +kernel
theorem dX5_add_5 : decode cX5_add 5 = .ok (.bipush 7, 2) := by decide +kernel
theorem dX5_add_7 : decode cX5_add 7 = .ok (.invokestatic 43, 3) := by decide +kernel
theorem dX5_add_10 : decode cX5_add 10 = .ok (.ifCond .ne 4, 3) := by decide +kernel
theorem dX5_add_13 : decode cX5_add 13 = .ok (.return_, 1) := by decide +kernel
theorem dX5_add_14 : decode cX5_add 14 = .ok (.aload_n 0, 1) := by decide +kernel
theorem dX5_add_15 : decode cX5_add 15 = .ok (.getfield 9, 3) := by decide +kernel
theorem dX5_add_18 : decode cX5_add 18 = .ok (.aload_n 0, 1) := by decide +kernel
theorem dX5_add_19 : decode cX5_add 19 = .ok (.getfield 30, 3) := by decide +kernel
theorem dX5_add_22 : decode cX5_add 22 = .ok (.iload_n 1, 1) := by decide +kernel
theorem dX5_add_23 : decode cX5_add 23 = .ok (.iastore, 1) := by decide +kernel
theorem dX5_add_24 : decode cX5_add 24 = .ok (.aload_n 0, 1) := by decide +kernel
theorem dX5_add_25 : decode cX5_add 25 = .ok (.getfield 15, 3) := by decide +kernel
theorem dX5_add_28 : decode cX5_add 28 = .ok (.aload_n 0, 1) := by decide +kernel
theorem dX5_add_29 : decode cX5_add 29 = .ok (.getfield 30, 3) := by decide +kernel
theorem dX5_add_32 : decode cX5_add 32 = .ok (.iload_n 2, 1) := by decide +kernel
theorem dX5_add_33 : decode cX5_add 33 = .ok (.iastore, 1) := by decide +kernel
theorem dX5_add_34 : decode cX5_add 34 = .ok (.aload_n 0, 1) := by decide +kernel
theorem dX5_add_35 : decode cX5_add 35 = .ok (.getfield 18, 3) := by decide +kernel
theorem dX5_add_38 : decode cX5_add 38 = .ok (.aload_n 0, 1) := by decide +kernel
theorem dX5_add_39 : decode cX5_add 39 = .ok (.getfield 30, 3) := by decide +kernel
theorem dX5_add_42 : decode cX5_add 42 = .ok (.aload_n 0, 1) := by decide +kernel
theorem dX5_add_43 : decode cX5_add 43 = .ok (.getfield 30, 3) := by decide +kernel
theorem dX5_add_46 : decode cX5_add 46 = .ok (.iastore, 1) := by decide +kernel
theorem dX5_add_47 : decode cX5_add 47 = .ok (.aload_n 0, 1) := by decide +kernel
theorem dX5_add_48 : decode cX5_add 48 = .ok (.dup, 1) := by decide +kernel
theorem dX5_add_49 : decode cX5_add 49 = .ok (.getfield 30, 3) := by decide +kernel
theorem dX5_add_52 : decode cX5_add 52 = .ok (.iconst 1, 1) := by decide +kernel
theorem dX5_add_53 : decode cX5_add 53 = .ok (.iadd, 1) := by decide +kernel
theorem dX5_add_54 : decode cX5_add 54 = .ok (.putfield 30, 3) := by decide +kernel
theorem dX5_add_57 : decode cX5_add 57 = .ok (.return_, 1) := by decide +kernel
theorem dX5_has_0 : decode cX5_has 0 = .ok (.iload_n 1, 1) := by decide +kernel
theorem dX5_has_1 : decode cX5_has 1 = .ok (.ifCond .lt 21, 3) := by decide +kernel
theorem dX5_has_4 : decode cX5_has 4 = .ok (.iload_n 1, 1) := by decide +kernel
theorem dX5_has_5 : decode cX5_has 5 = .ok (.aload_n 0, 1) := by decide +kernel
theorem dX5_has_6 : decode cX5_has 6 = .ok (.getfield 30, 3) := by decide +kernel
theorem dX5_has_9 : decode cX5_has 9 = .ok (.if_icmp .ge 13, 3) := by decide +kernel
theorem dX5_has_12 : decode cX5_has 12 = .ok (.iload_n 1, 1) := by decide +kernel
theorem dX5_has_13 : decode cX5_has 13 = .ok (.bipush 8, 2) := by decide +kernel
theorem dX5_has_15 : decode cX5_has 15 = .ok (.if_icmp .ge 7, 3) := by decide +kernel
theorem dX5_has_18 : decode cX5_has 18 = .ok (.iconst 1, 1) := by decide +kernel
theorem dX5_has_19 : decode cX5_has 19 = .ok (.goto 4, 3) := by decide +kernel
theorem dX5_has_22 : decode cX5_has 22 = .ok (.iconst 0, 1) := by decide +kernel
theorem dX5_has_23 : decode cX5_has 23 = .ok (.ireturn, 1) := by decide +kernel
theorem dX5_isPair_0 : decode cX5_isPair 0 = .ok (.aload_n 0, 1) := by decide +kernel
theorem dX5_isPair_1 : decode cX5_isPair 1 = .ok (.iload_n 1, 1) := by decide +kernel
theorem dX5_isPair_2 : decode cX5_isPair 2 = .ok (.invokevirtual 47, 3) := by decide +kernel
theorem dX5_isPair_5 : decode cX5_isPair 5 = .ok (.ifCond .eq 20, 3) := by decide +kernel
theorem dX5_isPair_8 : decode cX5_isPair 8 = .ok (.aload_n 0, 1) := by decide +kernel
theorem dX5_isPair_9 : decode cX5_isPair 9 = .ok (.iload_n 2, 1) := by decide +kernel
theorem dX5_isPair_10 : decode cX5_isPair 10 = .ok (.invokevirtual 47, 3) := by decide +kernel
theorem dX5_isPair_13 : decode cX5_isPair 13 = .ok (.ifCond .eq 12, 3) := by decide +kernel
theorem dX5_isPair_16 : decode cX5_isPair 16 = .ok (.iload_n 1, 1) := by decide +kernel
theorem dX5_isPair_17 : decode cX5_isPair 17 = .ok (.iload_n 2, 1) := by decide +kernel
theorem dX5_isPair_18 : decode cX5_isPair 18 = .ok (.if_icmp .eq 7, 3) := by decide +kernel
theorem dX5_isPair_21 : decode cX5_isPair 21 = .ok (.iconst 1, 1) := by decide +kernel
theorem dX5_isPair_22 : decode cX5_isPair 22 = .ok (.goto 4, 3) := by decide +kernel
theorem dX5_isPair_25 : decode cX5_isPair 25 = .ok (.iconst 0, 1) := by decide +kernel
theorem dX5_isPair_26 : decode cX5_isPair 26 = .ok (.ireturn, 1) := by decide +kernel
theorem dX5_everybody_0 : decode cX5_everybody 0 = .ok (.iconst 1, 1) := by decide +kernel
theorem dX5_everybody_1 : decode cX5_everybody 1 = .ok (.aload_n 0, 1) := by decide +kernel
theorem dX5_everybody_2 : decode cX5_everybody 2 = .ok (.getfield 30, 3) := by decide +kernel
theorem dX5_everybody_5 : decode cX5_everybody 5 = .ok (.ishl, 1) := by decide +kernel
theorem dX5_everybody_6 : decode cX5_everybody 6 = .ok (.iconst 1, 1) := by decide +kernel
theorem dX5_everybody_7 : decode cX5_everybody 7 = .ok (.isub, 1) := by decide +kernel
theorem dX5_everybody_8 : decode cX5_everybody 8 = .ok (.ireturn, 1) := by decide +kernel
theorem dX5_holdsAll_0 : decode cX5_holdsAll 0 = .ok (.iload_n 1, 1) := by decide +kernel
theorem dX5_holdsAll_1 : decode cX5_holdsAll 1 = .ok (.aload_n 0, 1) := by decide +kernel
theorem dX5_holdsAll_2 : decode cX5_holdsAll 2 = .ok (.invokevirtual 51, 3) := by decide +kernel
theorem dX5_holdsAll_5 : decode cX5_holdsAll 5 = .ok (.iconst (-1), 1) := by decide +kernel
theorem dX5_holdsAll_6 : decode cX5_holdsAll 6 = .ok (.ixor, 1) := by decide +kernel
theorem dX5_holdsAll_7 : decode cX5_holdsAll 7 = .ok (.iand, 1) := by decide +kernel
theorem dX5_holdsAll_8 : decode cX5_holdsAll 8 = .ok (.ifCond .ne 7, 3) := by decide +kernel
theorem dX5_holdsAll_11 : decode cX5_holdsAll 11 = .ok (.iconst 1, 1) := by decide +kernel
theorem dX5_holdsAll_12 : decode cX5_holdsAll 12 = .ok (.goto 4, 3) := by decide +kernel
theorem dX5_holdsAll_15 : decode cX5_holdsAll 15 = .ok (.iconst 0, 1) := by decide +kernel
theorem dX5_holdsAll_16 : decode cX5_holdsAll 16 = .ok (.ireturn, 1) := by decide +kernel
theorem dX5_marksOf_0 : decode cX5_marksOf 0 = .ok (.aload_n 0, 1) := by decide +kernel
theorem dX5_marksOf_1 : decode cX5_marksOf 1 = .ok (.iload_n 1, 1) := by decide +kernel
theorem dX5_marksOf_2 : decode cX5_marksOf 2 = .ok (.invokevirtual 47, 3) := by decide +kernel
theorem dX5_marksOf_5 : decode cX5_marksOf 5 = .ok (.ifCond .eq 12, 3) := by decide +kernel
theorem dX5_marksOf_8 : decode cX5_marksOf 8 = .ok (.aload_n 0, 1) := by decide +kernel
theorem dX5_marksOf_9 : decode cX5_marksOf 9 = .ok (.getfield 9, 3) := by decide +kernel
theorem dX5_marksOf_12 : decode cX5_marksOf 12 = .ok (.iload_n 1, 1) := by decide +kernel
theorem dX5_marksOf_13 : decode cX5_marksOf 13 = .ok (.iaload, 1) := by decide +kernel
theorem dX5_marksOf_14 : decode cX5_marksOf 14 = .ok (.goto 4, 3) := by decide +kernel
theorem dX5_marksOf_17 : decode cX5_marksOf 17 = .ok (.iconst 0, 1) := by decide +kernel
theorem dX5_marksOf_18 : decode cX5_marksOf 18 = .ok (.ireturn, 1) := by decide +kernel
theorem dX5_changesOf_0 : decode cX5_changesOf 0 = .ok (.aload_n 0, 1) := by decide +kernel
theorem dX5_changesOf_1 : decode cX5_changesOf 1 = .ok (.iload_n 1, 1) := by decide +kernel
theorem dX5_changesOf_2 : decode cX5_changesOf 2 = .ok (.invokevirtual 47, 3) := by decide +kernel
theorem dX5_changesOf_5 : decode cX5_changesOf 5 = .ok (.ifCond .eq 12, 3) := by decide +kernel
theorem dX5_changesOf_8 : decode cX5_changesOf 8 = .ok (.aload_n 0, 1) := by decide +kernel
theorem dX5_changesOf_9 : decode cX5_changesOf 9 = .ok (.getfield 15, 3) := by decide +kernel
theorem dX5_changesOf_12 : decode cX5_changesOf 12 = .ok (.iload_n 1, 1) := by decide +kernel
theorem dX5_changesOf_13 : decode cX5_changesOf 13 = .ok (.iaload, 1) := by decide +kernel
theorem dX5_changesOf_14 : decode cX5_changesOf 14 = .ok (.goto 4, 3) := by decide +kernel
theorem dX5_changesOf_17 : decode cX5_changesOf 17 = .ok (.iconst 0, 1) := by decide +kernel
theorem dX5_changesOf_18 : decode cX5_changesOf 18 = .ok (.ireturn, 1) := by decide +kernel
theorem dX5_identityOf_0 : decode cX5_identityOf 0 = .ok (.aload_n 0, 1) := by decide +kernel
theorem dX5_identityOf_1 : decode cX5_identityOf 1 = .ok (.iload_n 1, 1) := by decide +kernel
theorem dX5_identityOf_2 : decode cX5_identityOf 2 = .ok (.invokevirtual 47, 3) := by decide +kernel
theorem dX5_identityOf_5 : decode cX5_identityOf 5 = .ok (.ifCond .eq 12, 3) := by decide +kernel
theorem dX5_identityOf_8 : decode cX5_identityOf 8 = .ok (.aload_n 0, 1) := by decide +kernel
theorem dX5_identityOf_9 : decode cX5_identityOf 9 = .ok (.getfield 18, 3) := by decide +kernel
theorem dX5_identityOf_12 : decode cX5_identityOf 12 = .ok (.iload_n 1, 1) := by decide +kernel
theorem dX5_identityOf_13 : decode cX5_identityOf 13 = .ok (.iaload, 1) := by decide +kernel
theorem dX5_identityOf_14 : decode cX5_identityOf 14 = .ok (.goto 4, 3) := by decide +kernel
theorem dX5_identityOf_17 : decode cX5_identityOf 17 = .ok (.iconst (-1), 1) := by decide +kernel
theorem dX5_identityOf_18 : decode cX5_identityOf 18 = .ok (.ireturn, 1) := by decide +kernel
theorem dX5_memoryOf_0 : decode cX5_memoryOf 0 = .ok (.aload_n 0, 1) := by decide +kernel
theorem dX5_memoryOf_1 : decode cX5_memoryOf 1 = .ok (.iload_n 1, 1) := by decide +kernel
theorem dX5_memoryOf_2 : decode cX5_memoryOf 2 = .ok (.iload_n 2, 1) := by decide +kernel
theorem dX5_memoryOf_3 : decode cX5_memoryOf 3 = .ok (.invokevirtual 55, 3) := by decide +kernel
theorem dX5_memoryOf_6 : decode cX5_memoryOf 6 = .ok (.ifCond .eq 17, 3) := by decide +kernel
theorem dX5_memoryOf_9 : decode cX5_memoryOf 9 = .ok (.aload_n 0, 1) := by decide +kernel
theorem dX5_memoryOf_10 : decode cX5_memoryOf 10 = .ok (.getfield 21, 3) := by decide +kernel
theorem dX5_memoryOf_13 : decode cX5_memoryOf 13 = .ok (.iload_n 1, 1) := by decide +kernel
theorem dX5_memoryOf_14 : decode cX5_memoryOf 14 = .ok (.bipush 8, 2) := by decide +kernel
theorem dX5_memoryOf_16 : decode cX5_memoryOf 16 = .ok (.imul, 1) := by decide +kernel
theorem dX5_memoryOf_17 : decode cX5_memoryOf 17 = .ok (.iload_n 2, 1) := by decide +kernel
theorem dX5_memoryOf_18 : decode cX5_memoryOf 18 = .ok (.iadd, 1) := by decide +kernel
theorem dX5_memoryOf_19 : decode cX5_memoryOf 19 = .ok (.iaload, 1) := by decide +kernel
theorem dX5_memoryOf_20 : decode cX5_memoryOf 20 = .ok (.goto 4, 3) := by decide +kernel
theorem dX5_memoryOf_23 : decode cX5_memoryOf 23 = .ok (.iconst (-1), 1) := by decide +kernel
theorem dX5_memoryOf_24 : decode cX5_memoryOf 24 = .ok (.ireturn, 1) := by decide +kernel
theorem dX5_knows_0 : decode cX5_knows 0 = .ok (.aload_n 0, 1) := by decide +kernel
theorem dX5_knows_1 : decode cX5_knows 1 = .ok (.iload_n 1, 1) := by decide +kernel
theorem dX5_knows_2 : decode cX5_knows 2 = .ok (.iload_n 2, 1) := by decide +kernel
theorem dX5_knows_3 : decode cX5_knows 3 = .ok (.invokevirtual 59, 3) := by decide +kernel
theorem dX5_knows_6 : decode cX5_knows 6 = .ok (.iconst (-1), 1) := by decide +kernel
theorem dX5_knows_7 : decode cX5_knows 7 = .ok (.if_icmp .eq 7, 3) := by decide +kernel
theorem dX5_knows_10 : decode cX5_knows 10 = .ok (.iconst 1, 1) := by decide +kernel
theorem dX5_knows_11 : decode cX5_knows 11 = .ok (.goto 4, 3) := by decide +kernel
theorem dX5_knows_14 : decode cX5_knows 14 = .ok (.iconst 0, 1) := by decide +kernel
theorem dX5_knows_15 : decode cX5_knows 15 = .ok (.ireturn, 1) := by decide +kernel
theorem dX5_flip_0 : decode cX5_flip 0 = .ok (.aload_n 0, 1) := by decide +kernel
theorem dX5_flip_1 : decode cX5_flip 1 = .ok (.iload_n 1, 1) := by decide +kernel
theorem dX5_flip_2 : decode cX5_flip 2 = .ok (.invokevirtual 47, 3) := by decide +kernel
theorem dX5_flip_5 : decode cX5_flip 5 = .ok (.ifCond .eq 15, 3) := by decide +kernel
theorem dX5_flip_8 : decode cX5_flip 8 = .ok (.aload_n 0, 1) := by decide +kernel
theorem dX5_flip_9 : decode cX5_flip 9 = .ok (.getfield 9, 3) := by decide +kernel
theorem dX5_flip_12 : decode cX5_flip 12 = .ok (.iload_n 1, 1) := by decide +kernel
theorem dX5_flip_13 : decode cX5_flip 13 = .ok (.dup2, 1) := by decide +kernel
theorem dX5_flip_14 : decode cX5_flip 14 = .ok (.iaload, 1) := by decide +kernel
theorem dX5_flip_15 : decode cX5_flip 15 = .ok (.iconst 1, 1) := by decide +kernel
theorem dX5_flip_16 : decode cX5_flip 16 = .ok (.iload_n 2, 1) := by decide +kernel
theorem dX5_flip_17 : decode cX5_flip 17 = .ok (.ishl, 1) := by decide +kernel
theorem dX5_flip_18 : decode cX5_flip 18 = .ok (.ixor, 1) := by decide +kernel
theorem dX5_flip_19 : decode cX5_flip 19 = .ok (.iastore, 1) := by decide +kernel
theorem dX5_flip_20 : decode cX5_flip 20 = .ok (.return_, 1) := by decide +kernel
theorem dX5_learn_0 : decode cX5_learn 0 = .ok (.aload_n 0, 1) := by decide +kernel
theorem dX5_learn_1 : decode cX5_learn 1 = .ok (.iload_n 1, 1) := by decide +kernel
theorem dX5_learn_2 : decode cX5_learn 2 = .ok (.iload_n 2, 1) := by decide +kernel
theorem dX5_learn_3 : decode cX5_learn 3 = .ok (.invokevirtual 55, 3) := by decide +kernel
theorem dX5_learn_6 : decode cX5_learn 6 = .ok (.ifCond .eq 19, 3) := by decide +kernel
theorem dX5_learn_9 : decode cX5_learn 9 = .ok (.aload_n 0, 1) := by decide +kernel
theorem dX5_learn_10 : decode cX5_learn 10 = .ok (.getfield 21, 3) := by decide +kernel
theorem dX5_learn_13 : decode cX5_learn 13 = .ok (.iload_n 1, 1) := by decide +kernel
theorem dX5_learn_14 : decode cX5_learn 14 = .ok (.bipush 8, 2) := by decide +kernel
theorem dX5_learn_16 : decode cX5_learn 16 = .ok (.imul, 1) := by decide +kernel
theorem dX5_learn_17 : decode cX5_learn 17 = .ok (.iload_n 2, 1) := by decide +kernel
theorem dX5_learn_18 : decode cX5_learn 18 = .ok (.iadd, 1) := by decide +kernel
theorem dX5_learn_19 : decode cX5_learn 19 = .ok (.aload_n 0, 1) := by decide +kernel
theorem dX5_learn_20 : decode cX5_learn 20 = .ok (.iload_n 2, 1) := by decide +kernel
theorem dX5_learn_21 : decode cX5_learn 21 = .ok (.invokevirtual 63, 3) := by decide +kernel
theorem dX5_learn_24 : decode cX5_learn 24 = .ok (.iastore, 1) := by decide +kernel
theorem dX5_learn_25 : decode cX5_learn 25 = .ok (.return_, 1) := by decide +kernel
theorem dX5_unlearn_0 : decode cX5_unlearn 0 = .ok (.aload_n 0, 1) := by decide +kernel
theorem dX5_unlearn_1 : decode cX5_unlearn 1 = .ok (.iload_n 1, 1) := by decide +kernel
theorem dX5_unlearn_2 : decode cX5_unlearn 2 = .ok (.iload_n 2, 1) := by decide +kernel
theorem dX5_unlearn_3 : decode cX5_unlearn 3 = .ok (.invokevirtual 55, 3) := by decide +kernel
theorem dX5_unlearn_6 : decode cX5_unlearn 6 = .ok (.ifCond .eq 15, 3) := by decide +kernel
theorem dX5_unlearn_9 : decode cX5_unlearn 9 = .ok (.aload_n 0, 1) := by decide +kernel
theorem dX5_unlearn_10 : decode cX5_unlearn 10 = .ok (.getfield 21, 3) := by decide +kernel
theorem dX5_unlearn_13 : decode cX5_unlearn 13 = .ok (.iload_n 1, 1) := by decide +kernel
theorem dX5_unlearn_14 : decode cX5_unlearn 14 = .ok (.bipush 8, 2) := by decide +kernel
theorem dX5_unlearn_16 : decode cX5_unlearn 16 = .ok (.imul, 1) := by decide +kernel
theorem dX5_unlearn_17 : decode cX5_unlearn 17 = .ok (.iload_n 2, 1) := by decide +kernel
theorem dX5_unlearn_18 : decode cX5_unlearn 18 = .ok (.iadd, 1) := by decide +kernel
theorem dX5_unlearn_19 : decode cX5_unlearn 19 = .ok (.iconst (-1), 1) := by decide +kernel
theorem dX5_unlearn_20 : decode cX5_unlearn 20 = .ok (.iastore, 1) := by decide +kernel
theorem dX5_unlearn_21 : decode cX5_unlearn 21 = .ok (.return_, 1) := by decide +kernel
theorem dX5_identify_0 : decode cX5_identify 0 = .ok (.aload_n 0, 1) := by decide +kernel
theorem dX5_identify_1 : decode cX5_identify 1 = .ok (.iload_n 1, 1) := by decide +kernel
theorem dX5_identify_2 : decode cX5_identify 2 = .ok (.invokevirtual 47, 3) := by decide +kernel
theorem dX5_identify_5 : decode cX5_identify 5 = .ok (.ifCond .eq 10, 3) := by decide +kernel
theorem dX5_identify_8 : decode cX5_identify 8 = .ok (.aload_n 0, 1) := by decide +kernel
theorem dX5_identify_9 : decode cX5_identify 9 = .ok (.getfield 18, 3) := by decide +kernel
theorem dX5_identify_12 : decode cX5_identify 12 = .ok (.iload_n 1, 1) := by decide +kernel
theorem dX5_identify_13 : decode cX5_identify 13 = .ok (.iload_n 2, 1) := by decide +kernel
theorem dX5_identify_14 : decode cX5_identify 14 = .ok (.iastore, 1) := by decide +kernel
theorem dX5_identify_15 : decode cX5_identify 15 = .ok (.return_, 1) := by decide +kernel
theorem dX5_passYears_0 : decode cX5_passYears 0 = .ok (.iconst 0, 1) := by decide +kernel
theorem dX5_passYears_1 : decode cX5_passYears 1 = .ok (.istore_n 2, 1) := by decide +kernel
theorem dX5_passYears_2 : decode cX5_passYears 2 = .ok (.iload_n 2, 1) := by decide +kernel
theorem dX5_passYears_3 : decode cX5_passYears 3 = .ok (.iload_n 1, 1) := by decide +kernel
theorem dX5_passYears_4 : decode cX5_passYears 4 = .ok (.if_icmp .ge 69, 3) := by decide +kernel
theorem dX5_passYears_7 : decode cX5_passYears 7 = .ok (.iload_n 2, 1) := by decide +kernel
theorem dX5_passYears_8 : decode cX5_passYears 8 = .ok (.bipush 60, 2) := by decide +kernel
theorem dX5_passYears_10 : decode cX5_passYears 10 = .ok (.if_icmp .ge 63, 3) := by decide +kernel
theorem dX5_passYears_13 : decode cX5_passYears 13 = .ok (.iconst 0, 1) := by decide +kernel
theorem dX5_passYears_14 : decode cX5_passYears 14 = .ok (.istore_n 3, 1) := by decide +kernel
theorem dX5_passYears_15 : decode cX5_passYears 15 = .ok (.iload_n 3, 1) := by decide +kernel
theorem dX5_passYears_16 : decode cX5_passYears 16 = .ok (.aload_n 0, 1) := by decide +kernel
theorem dX5_passYears_17 : decode cX5_passYears 17 = .ok (.getfield 30, 3) := by decide +kernel
theorem dX5_passYears_20 : decode cX5_passYears 20 = .ok (.if_icmp .ge 37, 3) := by decide +kernel
theorem dX5_passYears_23 : decode cX5_passYears 23 = .ok (.aload_n 0, 1) := by decide +kernel
theorem dX5_passYears_24 : decode cX5_passYears 24 = .ok (.iload_n 3, 1) := by decide +kernel
theorem dX5_passYears_25 : decode cX5_passYears 25 = .ok (.invokevirtual 67, 3) := by decide +kernel
theorem dX5_passYears_28 : decode cX5_passYears 28 = .ok (.ifCond .le 23, 3) := by decide +kernel
theorem dX5_passYears_31 : decode cX5_passYears 31 = .ok (.aload_n 0, 1) := by decide +kernel
theorem dX5_passYears_32 : decode cX5_passYears 32 = .ok (.iload_n 3, 1) := by decide +kernel
theorem dX5_passYears_33 : decode cX5_passYears 33 = .ok (.aload_n 0, 1) := by decide +kernel
theorem dX5_passYears_34 : decode cX5_passYears 34 = .ok (.getfield 34, 3) := by decide +kernel
theorem dX5_passYears_37 : decode cX5_passYears 37 = .ok (.aload_n 0, 1) := by decide +kernel
theorem dX5_passYears_38 : decode cX5_passYears 38 = .ok (.iload_n 3, 1) := by decide +kernel
theorem dX5_passYears_39 : decode cX5_passYears 39 = .ok (.invokevirtual 67, 3) := by decide +kernel
theorem dX5_passYears_42 : decode cX5_passYears 42 = .ok (.imul, 1) := by decide +kernel
theorem dX5_passYears_43 : decode cX5_passYears 43 = .ok (.iload_n 3, 1) := by decide +kernel
theorem dX5_passYears_44 : decode cX5_passYears 44 = .ok (.iadd, 1) := by decide +kernel
theorem dX5_passYears_45 : decode cX5_passYears 45 = .ok (.bipush 8, 2) := by decide +kernel
theorem dX5_passYears_47 : decode cX5_passYears 47 = .ok (.irem, 1) := by decide +kernel
theorem dX5_passYears_48 : decode cX5_passYears 48 = .ok (.invokevirtual 70, 3) := by decide +kernel
theorem dX5_passYears_51 : decode cX5_passYears 51 = .ok (.iinc 3 1, 3) := by decide +kernel
theorem dX5_passYears_54 : decode cX5_passYears 54 = .ok (.goto (-39), 3) := by decide +kernel
theorem dX5_passYears_57 : decode cX5_passYears 57 = .ok (.aload_n 0, 1) := by decide +kernel
theorem dX5_passYears_58 : decode cX5_passYears 58 = .ok (.dup, 1) := by decide +kernel
theorem dX5_passYears_59 : decode cX5_passYears 59 = .ok (.getfield 34, 3) := by decide +kernel
theorem dX5_passYears_62 : decode cX5_passYears 62 = .ok (.iconst 1, 1) := by decide +kernel
theorem dX5_passYears_63 : decode cX5_passYears 63 = .ok (.iadd, 1) := by decide +kernel
theorem dX5_passYears_64 : decode cX5_passYears 64 = .ok (.putfield 34, 3) := by decide +kernel
theorem dX5_passYears_67 : decode cX5_passYears 67 = .ok (.iinc 2 1, 3) := by decide +kernel
theorem dX5_passYears_70 : decode cX5_passYears 70 = .ok (.goto (-68), 3) := by decide +kernel
theorem dX5_passYears_73 : decode cX5_passYears 73 = .ok (.return_, 1) := by decide +kernel
theorem dX5_knownBy_0 : decode cX5_knownBy 0 = .ok (.iconst 0, 1) := by decide +kernel
theorem dX5_knownBy_1 : decode cX5_knownBy 1 = .ok (.istore_n 2, 1) := by decide +kernel
theorem dX5_knownBy_2 : decode cX5_knownBy 2 = .ok (.iconst 0, 1) := by decide +kernel
theorem dX5_knownBy_3 : decode cX5_knownBy 3 = .ok (.istore_n 3, 1) := by decide +kernel
theorem dX5_knownBy_4 : decode cX5_knownBy 4 = .ok (.iload_n 3, 1) := by decide +kernel
theorem dX5_knownBy_5 : decode cX5_knownBy 5 = .ok (.aload_n 0, 1) := by decide +kernel
theorem dX5_knownBy_6 : decode cX5_knownBy 6 = .ok (.getfield 30, 3) := by decide +kernel
theorem dX5_knownBy_9 : decode cX5_knownBy 9 = .ok (.if_icmp .ge 24, 3) := by decide +kernel
theorem dX5_knownBy_12 : decode cX5_knownBy 12 = .ok (.aload_n 0, 1) := by decide +kernel
theorem dX5_knownBy_13 : decode cX5_knownBy 13 = .ok (.iload_n 1, 1) := by decide +kernel
theorem dX5_knownBy_14 : decode cX5_knownBy 14 = .ok (.iload_n 3, 1) := by decide +kernel
theorem dX5_knownBy_15 : decode cX5_knownBy 15 = .ok (.invokevirtual 74, 3) := by decide +kernel
theorem dX5_knownBy_18 : decode cX5_knownBy 18 = .ok (.ifCond .eq 9, 3) := by decide +kernel
theorem dX5_knownBy_21 : decode cX5_knownBy 21 = .ok (.iload_n 2, 1) := by decide +kernel
theorem dX5_knownBy_22 : decode cX5_knownBy 22 = .ok (.iconst 1, 1) := by decide +kernel
theorem dX5_knownBy_23 : decode cX5_knownBy 23 = .ok (.iload_n 3, 1) := by decide +kernel
theorem dX5_knownBy_24 : decode cX5_knownBy 24 = .ok (.ishl, 1) := by decide +kernel
theorem dX5_knownBy_25 : decode cX5_knownBy 25 = .ok (.ior, 1) := by decide +kernel
theorem dX5_knownBy_26 : decode cX5_knownBy 26 = .ok (.istore_n 2, 1) := by decide +kernel
theorem dX5_knownBy_27 : decode cX5_knownBy 27 = .ok (.iinc 3 1, 3) := by decide +kernel
theorem dX5_knownBy_30 : decode cX5_knownBy 30 = .ok (.goto (-26), 3) := by decide +kernel
theorem dX5_knownBy_33 : decode cX5_knownBy 33 = .ok (.iload_n 2, 1) := by decide +kernel
theorem dX5_knownBy_34 : decode cX5_knownBy 34 = .ok (.ireturn, 1) := by decide +kernel
theorem dX5_knowersOf_0 : decode cX5_knowersOf 0 = .ok (.iconst 0, 1) := by decide +kernel
theorem dX5_knowersOf_1 : decode cX5_knowersOf 1 = .ok (.istore_n 2, 1) := by decide +kernel
theorem dX5_knowersOf_2 : decode cX5_knowersOf 2 = .ok (.iconst 0, 1) := by decide +kernel
theorem dX5_knowersOf_3 : decode cX5_knowersOf 3 = .ok (.istore_n 3, 1) := by decide +kernel
theorem dX5_knowersOf_4 : decode cX5_knowersOf 4 = .ok (.iload_n 3, 1) := by decide +kernel
theorem dX5_knowersOf_5 : decode cX5_knowersOf 5 = .ok (.aload_n 0, 1) := by decide +kernel
theorem dX5_knowersOf_6 : decode cX5_knowersOf 6 = .ok (.getfield 30, 3) := by decide +kernel
theorem dX5_knowersOf_9 : decode cX5_knowersOf 9 = .ok (.if_icmp .ge 24, 3) := by decide +kernel
theorem dX5_knowersOf_12 : decode cX5_knowersOf 12 = .ok (.aload_n 0, 1) := by decide +kernel
theorem dX5_knowersOf_13 : decode cX5_knowersOf 13 = .ok (.iload_n 3, 1) := by decide +kernel
theorem dX5_knowersOf_14 : decode cX5_knowersOf 14 = .ok (.iload_n 1, 1) := by decide +kernel
theorem dX5_knowersOf_15 : decode cX5_knowersOf 15 = .ok (.invokevirtual 74, 3) := by decide +kernel
theorem dX5_knowersOf_18 : decode cX5_knowersOf 18 = .ok (.ifCond .eq 9, 3) := by decide +kernel
theorem dX5_knowersOf_21 : decode cX5_knowersOf 21 = .ok (.iload_n 2, 1) := by decide +kernel
theorem dX5_knowersOf_22 : decode cX5_knowersOf 22 = .ok (.iconst 1, 1) := by decide +kernel
theorem dX5_knowersOf_23 : decode cX5_knowersOf 23 = .ok (.iload_n 3, 1) := by decide +kernel
theorem dX5_knowersOf_24 : decode cX5_knowersOf 24 = .ok (.ishl, 1) := by decide +kernel
theorem dX5_knowersOf_25 : decode cX5_knowersOf 25 = .ok (.ior, 1) := by decide +kernel
theorem dX5_knowersOf_26 : decode cX5_knowersOf 26 = .ok (.istore_n 2, 1) := by decide +kernel
theorem dX5_knowersOf_27 : decode cX5_knowersOf 27 = .ok (.iinc 3 1, 3) := by decide +kernel
theorem dX5_knowersOf_30 : decode cX5_knowersOf 30 = .ok (.goto (-26), 3) := by decide +kernel
theorem dX5_knowersOf_33 : decode cX5_knowersOf 33 = .ok (.iload_n 2, 1) := by decide +kernel
theorem dX5_knowersOf_34 : decode cX5_knowersOf 34 = .ok (.ireturn, 1) := by decide +kernel
theorem dX5_countAcquaintances_0 : decode cX5_countAcquaintances 0 = .ok (.iconst 0, 1) := by decide +kernel
theorem dX5_countAcquaintances_1 : decode cX5_countAcquaintances 1 = .ok (.istore_n 1, 1) := by decide +kernel
theorem dX5_countAcquaintances_2 : decode cX5_countAcquaintances 2 = .ok (.iconst 0, 1) := by decide +kernel
theorem dX5_countAcquaintances_3 : decode cX5_countAcquaintances 3 = .ok (.istore_n 2, 1) := by decide +kernel
theorem dX5_countAcquaintances_4 : decode cX5_countAcquaintances 4 = .ok (.iload_n 2, 1) := by decide +kernel
theorem dX5_countAcquaintances_5 : decode cX5_countAcquaintances 5 = .ok (.aload_n 0, 1) := by decide +kernel
theorem dX5_countAcquaintances_6 : decode cX5_countAcquaintances 6 = .ok (.getfield 30, 3) := by decide +kernel
theorem dX5_countAcquaintances_9 : decode cX5_countAcquaintances 9 = .ok (.if_icmp .ge 20, 3) := by decide +kernel
theorem dX5_countAcquaintances_12 : decode cX5_countAcquaintances 12 = .ok (.iload_n 1, 1) := by decide +kernel
theorem dX5_countAcquaintances_13 : decode cX5_countAcquaintances 13 = .ok (.aload_n 0, 1) := by decide +kernel
theorem dX5_countAcquaintances_14 : decode cX5_countAcquaintances 14 = .ok (.iload_n 2, 1) := by decide +kernel
theorem dX5_countAcquaintances_15 : decode cX5_countAcquaintances 15 = .ok (.invokevirtual 77, 3) := by decide +kernel
theorem dX5_countAcquaintances_18 : decode cX5_countAcquaintances 18 = .ok (.invokestatic 80, 3) := by decide +kernel
theorem dX5_countAcquaintances_21 : decode cX5_countAcquaintances 21 = .ok (.iadd, 1) := by decide +kernel
theorem dX5_countAcquaintances_22 : decode cX5_countAcquaintances 22 = .ok (.istore_n 1, 1) := by decide +kernel
theorem dX5_countAcquaintances_23 : decode cX5_countAcquaintances 23 = .ok (.iinc 2 1, 3) := by decide +kernel
theorem dX5_countAcquaintances_26 : decode cX5_countAcquaintances 26 = .ok (.goto (-22), 3) := by decide +kernel
theorem dX5_countAcquaintances_29 : decode cX5_countAcquaintances 29 = .ok (.iload_n 1, 1) := by decide +kernel
theorem dX5_countAcquaintances_30 : decode cX5_countAcquaintances 30 = .ok (.ireturn, 1) := by decide +kernel
theorem dX5_whoAre_0 : decode cX5_whoAre 0 = .ok (.iconst 0, 1) := by decide +kernel
theorem dX5_whoAre_1 : decode cX5_whoAre 1 = .ok (.istore_n 2, 1) := by decide +kernel
theorem dX5_whoAre_2 : decode cX5_whoAre 2 = .ok (.iconst 0, 1) := by decide +kernel
theorem dX5_whoAre_3 : decode cX5_whoAre 3 = .ok (.istore_n 3, 1) := by decide +kernel
theorem dX5_whoAre_4 : decode cX5_whoAre 4 = .ok (.iload_n 3, 1) := by decide +kernel
theorem dX5_whoAre_5 : decode cX5_whoAre 5 = .ok (.aload_n 0, 1) := by decide +kernel
theorem dX5_whoAre_6 : decode cX5_whoAre 6 = .ok (.getfield 30, 3) := by decide +kernel
theorem dX5_whoAre_9 : decode cX5_whoAre 9 = .ok (.if_icmp .ge 24, 3) := by decide +kernel
theorem dX5_whoAre_12 : decode cX5_whoAre 12 = .ok (.aload_n 0, 1) := by decide +kernel
theorem dX5_whoAre_13 : decode cX5_whoAre 13 = .ok (.iload_n 3, 1) := by decide +kernel
theorem dX5_whoAre_14 : decode cX5_whoAre 14 = .ok (.invokevirtual 85, 3) := by decide +kernel
theorem dX5_whoAre_17 : decode cX5_whoAre 17 = .ok (.iload_n 1, 1) := by decide +kernel
theorem dX5_whoAre_18 : decode cX5_whoAre 18 = .ok (.if_icmp .ne 9, 3) := by decide +kernel
theorem dX5_whoAre_21 : decode cX5_whoAre 21 = .ok (.iload_n 2, 1) := by decide +kernel
theorem dX5_whoAre_22 : decode cX5_whoAre 22 = .ok (.iconst 1, 1) := by decide +kernel
theorem dX5_whoAre_23 : decode cX5_whoAre 23 = .ok (.iload_n 3, 1) := by decide +kernel
theorem dX5_whoAre_24 : decode cX5_whoAre 24 = .ok (.ishl, 1) := by decide +kernel
theorem dX5_whoAre_25 : decode cX5_whoAre 25 = .ok (.ior, 1) := by decide +kernel
theorem dX5_whoAre_26 : decode cX5_whoAre 26 = .ok (.istore_n 2, 1) := by decide +kernel
theorem dX5_whoAre_27 : decode cX5_whoAre 27 = .ok (.iinc 3 1, 3) := by decide +kernel
theorem dX5_whoAre_30 : decode cX5_whoAre 30 = .ok (.goto (-26), 3) := by decide +kernel
theorem dX5_whoAre_33 : decode cX5_whoAre 33 = .ok (.iload_n 2, 1) := by decide +kernel
theorem dX5_whoAre_34 : decode cX5_whoAre 34 = .ok (.ireturn, 1) := by decide +kernel
theorem dX5_twoOfOne_0 : decode cX5_twoOfOne 0 = .ok (.iconst 0, 1) := by decide +kernel
theorem dX5_twoOfOne_1 : decode cX5_twoOfOne 1 = .ok (.istore_n 1, 1) := by decide +kernel
theorem dX5_twoOfOne_2 : decode cX5_twoOfOne 2 = .ok (.iconst 0, 1) := by decide +kernel
theorem dX5_twoOfOne_3 : decode cX5_twoOfOne 3 = .ok (.istore_n 2, 1) := by decide +kernel
theorem dX5_twoOfOne_4 : decode cX5_twoOfOne 4 = .ok (.iload_n 2, 1) := by decide +kernel
theorem dX5_twoOfOne_5 : decode cX5_twoOfOne 5 = .ok (.aload_n 0, 1) := by decide +kernel
theorem dX5_twoOfOne_6 : decode cX5_twoOfOne 6 = .ok (.getfield 30, 3) := by decide +kernel
theorem dX5_twoOfOne_9 : decode cX5_twoOfOne 9 = .ok (.if_icmp .ge 27, 3) := by decide +kernel
theorem dX5_twoOfOne_12 : decode cX5_twoOfOne 12 = .ok (.aload_n 0, 1) := by decide +kernel
theorem dX5_twoOfOne_13 : decode cX5_twoOfOne 13 = .ok (.iload_n 2, 1) := by decide +kernel
theorem dX5_twoOfOne_14 : decode cX5_twoOfOne 14 = .ok (.invokevirtual 88, 3) := by decide +kernel
theorem dX5_twoOfOne_17 : decode cX5_twoOfOne 17 = .ok (.istore_n 3, 1) := by decide +kernel
theorem dX5_twoOfOne_18 : decode cX5_twoOfOne 18 = .ok (.iload_n 3, 1) := by decide +kernel
theorem dX5_twoOfOne_19 : decode cX5_twoOfOne 19 = .ok (.invokestatic 80, 3) := by decide +kernel
theorem dX5_twoOfOne_22 : decode cX5_twoOfOne 22 = .ok (.iconst 1, 1) := by decide +kernel
theorem dX5_twoOfOne_23 : decode cX5_twoOfOne 23 = .ok (.if_icmp .le 7, 3) := by decide +kernel
theorem dX5_twoOfOne_26 : decode cX5_twoOfOne 26 = .ok (.iload_n 1, 1) := by decide +kernel
theorem dX5_twoOfOne_27 : decode cX5_twoOfOne 27 = .ok (.iload_n 3, 1) := by decide +kernel
theorem dX5_twoOfOne_28 : decode cX5_twoOfOne 28 = .ok (.ior, 1) := by decide +kernel
theorem dX5_twoOfOne_29 : decode cX5_twoOfOne 29 = .ok (.istore_n 1, 1) := by decide +kernel
theorem dX5_twoOfOne_30 : decode cX5_twoOfOne 30 = .ok (.iinc 2 1, 3) := by decide +kernel
theorem dX5_twoOfOne_33 : decode cX5_twoOfOne 33 = .ok (.goto (-29), 3) := by decide +kernel
theorem dX5_twoOfOne_36 : decode cX5_twoOfOne 36 = .ok (.iload_n 1, 1) := by decide +kernel
theorem dX5_twoOfOne_37 : decode cX5_twoOfOne 37 = .ok (.ireturn, 1) := by decide +kernel
theorem dX5_nobodies_0 : decode cX5_nobodies 0 = .ok (.iconst 0, 1) := by decide +kernel
theorem dX5_nobodies_1 : decode cX5_nobodies 1 = .ok (.istore_n 1, 1) := by decide +kernel
theorem dX5_nobodies_2 : decode cX5_nobodies 2 = .ok (.iconst 0, 1) := by decide +kernel
theorem dX5_nobodies_3 : decode cX5_nobodies 3 = .ok (.istore_n 2, 1) := by decide +kernel
theorem dX5_nobodies_4 : decode cX5_nobodies 4 = .ok (.iload_n 2, 1) := by decide +kernel
theorem dX5_nobodies_5 : decode cX5_nobodies 5 = .ok (.aload_n 0, 1) := by decide +kernel
theorem dX5_nobodies_6 : decode cX5_nobodies 6 = .ok (.getfield 30, 3) := by decide +kernel
theorem dX5_nobodies_9 : decode cX5_nobodies 9 = .ok (.if_icmp .ge 23, 3) := by decide +kernel
theorem dX5_nobodies_12 : decode cX5_nobodies 12 = .ok (.aload_n 0, 1) := by decide +kernel
theorem dX5_nobodies_13 : decode cX5_nobodies 13 = .ok (.iload_n 2, 1) := by decide +kernel
theorem dX5_nobodies_14 : decode cX5_nobodies 14 = .ok (.invokevirtual 88, 3) := by decide +kernel
theorem dX5_nobodies_17 : decode cX5_nobodies 17 = .ok (.ifCond .ne 9, 3) := by decide +kernel
theorem dX5_nobodies_20 : decode cX5_nobodies 20 = .ok (.iload_n 1, 1) := by decide +kernel
theorem dX5_nobodies_21 : decode cX5_nobodies 21 = .ok (.iconst 1, 1) := by decide +kernel
theorem dX5_nobodies_22 : decode cX5_nobodies 22 = .ok (.iload_n 2, 1) := by decide +kernel
theorem dX5_nobodies_23 : decode cX5_nobodies 23 = .ok (.ishl, 1) := by decide +kernel
theorem dX5_nobodies_24 : decode cX5_nobodies 24 = .ok (.ior, 1) := by decide +kernel
theorem dX5_nobodies_25 : decode cX5_nobodies 25 = .ok (.istore_n 1, 1) := by decide +kernel
theorem dX5_nobodies_26 : decode cX5_nobodies 26 = .ok (.iinc 2 1, 3) := by decide +kernel
theorem dX5_nobodies_29 : decode cX5_nobodies 29 = .ok (.goto (-25), 3) := by decide +kernel
theorem dX5_nobodies_32 : decode cX5_nobodies 32 = .ok (.iload_n 1, 1) := by decide +kernel
theorem dX5_nobodies_33 : decode cX5_nobodies 33 = .ok (.ireturn, 1) := by decide +kernel
theorem dX5_stepsBackTo_0 : decode cX5_stepsBackTo 0 = .ok (.iload_n 1, 1) := by decide +kernel
theorem dX5_stepsBackTo_1 : decode cX5_stepsBackTo 1 = .ok (.istore_n 2, 1) := by decide +kernel
theorem dX5_stepsBackTo_2 : decode cX5_stepsBackTo 2 = .ok (.iconst 1, 1) := by decide +kernel
theorem dX5_stepsBackTo_3 : decode cX5_stepsBackTo 3 = .ok (.istore_n 3, 1) := by decide +kernel
theorem dX5_stepsBackTo_4 : decode cX5_stepsBackTo 4 = .ok (.iload_n 3, 1) := by decide +kernel
theorem dX5_stepsBackTo_5 : decode cX5_stepsBackTo 5 = .ok (.aload_n 0, 1) := by decide +kernel
theorem dX5_stepsBackTo_6 : decode cX5_stepsBackTo 6 = .ok (.getfield 30, 3) := by decide +kernel
theorem dX5_stepsBackTo_9 : decode cX5_stepsBackTo 9 = .ok (.if_icmp .gt 22, 3) := by decide +kernel
theorem dX5_stepsBackTo_12 : decode cX5_stepsBackTo 12 = .ok (.aload_n 0, 1) := by decide +kernel
theorem dX5_stepsBackTo_13 : decode cX5_stepsBackTo 13 = .ok (.iload_n 2, 1) := by decide +kernel
theorem dX5_stepsBackTo_14 : decode cX5_stepsBackTo 14 = .ok (.invokevirtual 85, 3) := by decide +kernel
theorem dX5_stepsBackTo_17 : decode cX5_stepsBackTo 17 = .ok (.istore_n 2, 1) := by decide +kernel
theorem dX5_stepsBackTo_18 : decode cX5_stepsBackTo 18 = .ok (.iload_n 2, 1) := by decide +kernel
theorem dX5_stepsBackTo_19 : decode cX5_stepsBackTo 19 = .ok (.iload_n 1, 1) := by decide +kernel
theorem dX5_stepsBackTo_20 : decode cX5_stepsBackTo 20 = .ok (.if_icmp .ne 5, 3) := by decide +kernel
theorem dX5_stepsBackTo_23 : decode cX5_stepsBackTo 23 = .ok (.iload_n 3, 1) := by decide +kernel
theorem dX5_stepsBackTo_24 : decode cX5_stepsBackTo 24 = .ok (.ireturn, 1) := by decide +kernel
theorem dX5_stepsBackTo_25 : decode cX5_stepsBackTo 25 = .ok (.iinc 3 1, 3) := by decide +kernel
theorem dX5_stepsBackTo_28 : decode cX5_stepsBackTo 28 = .ok (.goto (-24), 3) := by decide +kernel
theorem dX5_stepsBackTo_31 : decode cX5_stepsBackTo 31 = .ok (.iconst (-1), 1) := by decide +kernel
theorem dX5_stepsBackTo_32 : decode cX5_stepsBackTo 32 = .ok (.ireturn, 1) := by decide +kernel
theorem dX5_countInRings_0 : decode cX5_countInRings 0 = .ok (.iconst 0, 1) := by decide +kernel
theorem dX5_countInRings_1 : decode cX5_countInRings 1 = .ok (.istore_n 1, 1) := by decide +kernel
theorem dX5_countInRings_2 : decode cX5_countInRings 2 = .ok (.iconst 0, 1) := by decide +kernel
theorem dX5_countInRings_3 : decode cX5_countInRings 3 = .ok (.istore_n 2, 1) := by decide +kernel
theorem dX5_countInRings_4 : decode cX5_countInRings 4 = .ok (.iload_n 2, 1) := by decide +kernel
theorem dX5_countInRings_5 : decode cX5_countInRings 5 = .ok (.aload_n 0, 1) := by decide +kernel
theorem dX5_countInRings_6 : decode cX5_countInRings 6 = .ok (.getfield 30, 3) := by decide +kernel
theorem dX5_countInRings_9 : decode cX5_countInRings 9 = .ok (.if_icmp .ge 21, 3) := by decide +kernel
theorem dX5_countInRings_12 : decode cX5_countInRings 12 = .ok (.aload_n 0, 1) := by decide +kernel
theorem dX5_countInRings_13 : decode cX5_countInRings 13 = .ok (.iload_n 2, 1) := by decide +kernel
theorem dX5_countInRings_14 : decode cX5_countInRings 14 = .ok (.invokevirtual 91, 3) := by decide +kernel
theorem dX5_countInRings_17 : decode cX5_countInRings 17 = .ok (.iconst 1, 1) := by decide +kernel
theorem dX5_countInRings_18 : decode cX5_countInRings 18 = .ok (.if_icmp .le 6, 3) := by decide +kernel
theorem dX5_countInRings_21 : decode cX5_countInRings 21 = .ok (.iinc 1 1, 3) := by decide +kernel
theorem dX5_countInRings_24 : decode cX5_countInRings 24 = .ok (.iinc 2 1, 3) := by decide +kernel
theorem dX5_countInRings_27 : decode cX5_countInRings 27 = .ok (.goto (-23), 3) := by decide +kernel
theorem dX5_countInRings_30 : decode cX5_countInRings 30 = .ok (.iload_n 1, 1) := by decide +kernel
theorem dX5_countInRings_31 : decode cX5_countInRings 31 = .ok (.ireturn, 1) := by decide +kernel
theorem dX5_countAstray_0 : decode cX5_countAstray 0 = .ok (.iconst 0, 1) := by decide +kernel
theorem dX5_countAstray_1 : decode cX5_countAstray 1 = .ok (.istore_n 1, 1) := by decide +kernel
theorem dX5_countAstray_2 : decode cX5_countAstray 2 = .ok (.iconst 0, 1) := by decide +kernel
theorem dX5_countAstray_3 : decode cX5_countAstray 3 = .ok (.istore_n 2, 1) := by decide +kernel
theorem dX5_countAstray_4 : decode cX5_countAstray 4 = .ok (.iload_n 2, 1) := by decide +kernel
theorem dX5_countAstray_5 : decode cX5_countAstray 5 = .ok (.aload_n 0, 1) := by decide +kernel
theorem dX5_countAstray_6 : decode cX5_countAstray 6 = .ok (.getfield 30, 3) := by decide +kernel
theorem dX5_countAstray_9 : decode cX5_countAstray 9 = .ok (.if_icmp .ge 21, 3) := by decide +kernel
theorem dX5_countAstray_12 : decode cX5_countAstray 12 = .ok (.aload_n 0, 1) := by decide +kernel
theorem dX5_countAstray_13 : decode cX5_countAstray 13 = .ok (.iload_n 2, 1) := by decide +kernel
theorem dX5_countAstray_14 : decode cX5_countAstray 14 = .ok (.invokevirtual 85, 3) := by decide +kernel
theorem dX5_countAstray_17 : decode cX5_countAstray 17 = .ok (.iload_n 2, 1) := by decide +kernel
theorem dX5_countAstray_18 : decode cX5_countAstray 18 = .ok (.if_icmp .eq 6, 3) := by decide +kernel
theorem dX5_countAstray_21 : decode cX5_countAstray 21 = .ok (.iinc 1 1, 3) := by decide +kernel
theorem dX5_countAstray_24 : decode cX5_countAstray 24 = .ok (.iinc 2 1, 3) := by decide +kernel
theorem dX5_countAstray_27 : decode cX5_countAstray 27 = .ok (.goto (-23), 3) := by decide +kernel
theorem dX5_countAstray_30 : decode cX5_countAstray 30 = .ok (.iload_n 1, 1) := by decide +kernel
theorem dX5_countAstray_31 : decode cX5_countAstray 31 = .ok (.ireturn, 1) := by decide +kernel
theorem dX5_countAstrayAndKnown_0 : decode cX5_countAstrayAndKnown 0 = .ok (.iconst 0, 1) := by decide +kernel
theorem dX5_countAstrayAndKnown_1 : decode cX5_countAstrayAndKnown 1 = .ok (.istore_n 1, 1) := by decide +kernel
theorem dX5_countAstrayAndKnown_2 : decode cX5_countAstrayAndKnown 2 = .ok (.iconst 0, 1) := by decide +kernel
theorem dX5_countAstrayAndKnown_3 : decode cX5_countAstrayAndKnown 3 = .ok (.istore_n 2, 1) := by decide +kernel
theorem dX5_countAstrayAndKnown_4 : decode cX5_countAstrayAndKnown 4 = .ok (.iload_n 2, 1) := by decide +kernel
theorem dX5_countAstrayAndKnown_5 : decode cX5_countAstrayAndKnown 5 = .ok (.aload_n 0, 1) := by decide +kernel
theorem dX5_countAstrayAndKnown_6 : decode cX5_countAstrayAndKnown 6 = .ok (.getfield 30, 3) := by decide +kernel
theorem dX5_countAstrayAndKnown_9 : decode cX5_countAstrayAndKnown 9 = .ok (.if_icmp .ge 29, 3) := by decide +kernel
theorem dX5_countAstrayAndKnown_12 : decode cX5_countAstrayAndKnown 12 = .ok (.aload_n 0, 1) := by decide +kernel
theorem dX5_countAstrayAndKnown_13 : decode cX5_countAstrayAndKnown 13 = .ok (.iload_n 2, 1) := by decide +kernel
theorem dX5_countAstrayAndKnown_14 : decode cX5_countAstrayAndKnown 14 = .ok (.invokevirtual 85, 3) := by decide +kernel
theorem dX5_countAstrayAndKnown_17 : decode cX5_countAstrayAndKnown 17 = .ok (.iload_n 2, 1) := by decide +kernel
theorem dX5_countAstrayAndKnown_18 : decode cX5_countAstrayAndKnown 18 = .ok (.if_icmp .eq 14, 3) := by decide +kernel
theorem dX5_countAstrayAndKnown_21 : decode cX5_countAstrayAndKnown 21 = .ok (.aload_n 0, 1) := by decide +kernel
theorem dX5_countAstrayAndKnown_22 : decode cX5_countAstrayAndKnown 22 = .ok (.iload_n 2, 1) := by decide +kernel
theorem dX5_countAstrayAndKnown_23 : decode cX5_countAstrayAndKnown 23 = .ok (.invokevirtual 94, 3) := by decide +kernel
theorem dX5_countAstrayAndKnown_26 : decode cX5_countAstrayAndKnown 26 = .ok (.ifCond .eq 6, 3) := by decide +kernel
theorem dX5_countAstrayAndKnown_29 : decode cX5_countAstrayAndKnown 29 = .ok (.iinc 1 1, 3) := by decide +kernel
theorem dX5_countAstrayAndKnown_32 : decode cX5_countAstrayAndKnown 32 = .ok (.iinc 2 1, 3) := by decide +kernel
theorem dX5_countAstrayAndKnown_35 : decode cX5_countAstrayAndKnown 35 = .ok (.goto (-31), 3) := by decide +kernel
theorem dX5_countAstrayAndKnown_38 : decode cX5_countAstrayAndKnown 38 = .ok (.iload_n 1, 1) := by decide +kernel
theorem dX5_countAstrayAndKnown_39 : decode cX5_countAstrayAndKnown 39 = .ok (.ireturn, 1) := by decide +kernel
theorem dX5_isFaded_0 : decode cX5_isFaded 0 = .ok (.aload_n 0, 1) := by decide +kernel
theorem dX5_isFaded_1 : decode cX5_isFaded 1 = .ok (.iload_n 1, 1) := by decide +kernel
theorem dX5_isFaded_2 : decode cX5_isFaded 2 = .ok (.iload_n 2, 1) := by decide +kernel
theorem dX5_isFaded_3 : decode cX5_isFaded 3 = .ok (.invokevirtual 74, 3) := by decide +kernel
theorem dX5_isFaded_6 : decode cX5_isFaded 6 = .ok (.ifCond .eq 25, 3) := by decide +kernel
theorem dX5_isFaded_9 : decode cX5_isFaded 9 = .ok (.aload_n 0, 1) := by decide +kernel
theorem dX5_isFaded_10 : decode cX5_isFaded 10 = .ok (.iload_n 1, 1) := by decide +kernel
theorem dX5_isFaded_11 : decode cX5_isFaded 11 = .ok (.iload_n 2, 1) := by decide +kernel
theorem dX5_isFaded_12 : decode cX5_isFaded 12 = .ok (.invokevirtual 59, 3) := by decide +kernel
theorem dX5_isFaded_15 : decode cX5_isFaded 15 = .ok (.aload_n 0, 1) := by decide +kernel
theorem dX5_isFaded_16 : decode cX5_isFaded 16 = .ok (.iload_n 2, 1) := by decide +kernel
theorem dX5_isFaded_17 : decode cX5_isFaded 17 = .ok (.invokevirtual 63, 3) := by decide +kernel
theorem dX5_isFaded_20 : decode cX5_isFaded 20 = .ok (.invokestatic 97, 3) := by decide +kernel
theorem dX5_isFaded_23 : decode cX5_isFaded 23 = .ok (.iconst 3, 1) := by decide +kernel
theorem dX5_isFaded_24 : decode cX5_isFaded 24 = .ok (.if_icmp .lt 7, 3) := by decide +kernel
theorem dX5_isFaded_27 : decode cX5_isFaded 27 = .ok (.iconst 1, 1) := by decide +kernel
theorem dX5_isFaded_28 : decode cX5_isFaded 28 = .ok (.goto 4, 3) := by decide +kernel
theorem dX5_isFaded_31 : decode cX5_isFaded 31 = .ok (.iconst 0, 1) := by decide +kernel
theorem dX5_isFaded_32 : decode cX5_isFaded 32 = .ok (.ireturn, 1) := by decide +kernel
theorem dX5_fadedPair_0 : decode cX5_fadedPair 0 = .ok (.iconst 0, 1) := by decide +kernel
theorem dX5_fadedPair_1 : decode cX5_fadedPair 1 = .ok (.istore_n 2, 1) := by decide +kernel
theorem dX5_fadedPair_2 : decode cX5_fadedPair 2 = .ok (.iconst 0, 1) := by decide +kernel
theorem dX5_fadedPair_3 : decode cX5_fadedPair 3 = .ok (.istore_n 3, 1) := by decide +kernel
theorem dX5_fadedPair_4 : decode cX5_fadedPair 4 = .ok (.iload_n 3, 1) := by decide +kernel
theorem dX5_fadedPair_5 : decode cX5_fadedPair 5 = .ok (.aload_n 0, 1) := by decide +kernel
theorem dX5_fadedPair_6 : decode cX5_fadedPair 6 = .ok (.getfield 30, 3) := by decide +kernel
theorem dX5_fadedPair_9 : decode cX5_fadedPair 9 = .ok (.if_icmp .ge 53, 3) := by decide +kernel
theorem dX5_fadedPair_12 : decode cX5_fadedPair 12 = .ok (.iconst 0, 1) := by decide +kernel
theorem dX5_fadedPair_13 : decode cX5_fadedPair 13 = .ok (.istore 4, 2) := by decide +kernel
theorem dX5_fadedPair_15 : decode cX5_fadedPair 15 = .ok (.iload 4, 2) := by decide +kernel
theorem dX5_fadedPair_17 : decode cX5_fadedPair 17 = .ok (.aload_n 0, 1) := by decide +kernel
theorem dX5_fadedPair_18 : decode cX5_fadedPair 18 = .ok (.getfield 30, 3) := by decide +kernel
theorem dX5_fadedPair_21 : decode cX5_fadedPair 21 = .ok (.if_icmp .ge 35, 3) := by decide +kernel
theorem dX5_fadedPair_24 : decode cX5_fadedPair 24 = .ok (.aload_n 0, 1) := by decide +kernel
theorem dX5_fadedPair_25 : decode cX5_fadedPair 25 = .ok (.iload_n 3, 1) := by decide +kernel
theorem dX5_fadedPair_26 : decode cX5_fadedPair 26 = .ok (.iload 4, 2) := by decide +kernel
theorem dX5_fadedPair_28 : decode cX5_fadedPair 28 = .ok (.invokevirtual 102, 3) := by decide +kernel
theorem dX5_fadedPair_31 : decode cX5_fadedPair 31 = .ok (.ifCond .eq 19, 3) := by decide +kernel
theorem dX5_fadedPair_34 : decode cX5_fadedPair 34 = .ok (.iload_n 2, 1) := by decide +kernel
theorem dX5_fadedPair_35 : decode cX5_fadedPair 35 = .ok (.iload_n 1, 1) := by decide +kernel
theorem dX5_fadedPair_36 : decode cX5_fadedPair 36 = .ok (.if_icmp .ne 11, 3) := by decide +kernel
theorem dX5_fadedPair_39 : decode cX5_fadedPair 39 = .ok (.bipush 10, 2) := by decide +kernel
theorem dX5_fadedPair_41 : decode cX5_fadedPair 41 = .ok (.iload_n 3, 1) := by decide +kernel
theorem dX5_fadedPair_42 : decode cX5_fadedPair 42 = .ok (.imul, 1) := by decide +kernel
theorem dX5_fadedPair_43 : decode cX5_fadedPair 43 = .ok (.iload 4, 2) := by decide +kernel
theorem dX5_fadedPair_45 : decode cX5_fadedPair 45 = .ok (.iadd, 1) := by decide +kernel
theorem dX5_fadedPair_46 : decode cX5_fadedPair 46 = .ok (.ireturn, 1) := by decide +kernel
theorem dX5_fadedPair_47 : decode cX5_fadedPair 47 = .ok (.iinc 2 1, 3) := by decide +kernel
theorem dX5_fadedPair_50 : decode cX5_fadedPair 50 = .ok (.iinc 4 1, 3) := by decide +kernel
theorem dX5_fadedPair_53 : decode cX5_fadedPair 53 = .ok (.goto (-38), 3) := by decide +kernel
theorem dX5_fadedPair_56 : decode cX5_fadedPair 56 = .ok (.iinc 3 1, 3) := by decide +kernel
theorem dX5_fadedPair_59 : decode cX5_fadedPair 59 = .ok (.goto (-55), 3) := by decide +kernel
theorem dX5_fadedPair_62 : decode cX5_fadedPair 62 = .ok (.iload_n 1, 1) := by decide +kernel
theorem dX5_fadedPair_63 : decode cX5_fadedPair 63 = .ok (.iconst (-1), 1) := by decide +kernel
theorem dX5_fadedPair_64 : decode cX5_fadedPair 64 = .ok (.if_icmp .ne 7, 3) := by decide +kernel
theorem dX5_fadedPair_67 : decode cX5_fadedPair 67 = .ok (.iload_n 2, 1) := by decide +kernel
theorem dX5_fadedPair_68 : decode cX5_fadedPair 68 = .ok (.goto 4, 3) := by decide +kernel
theorem dX5_fadedPair_71 : decode cX5_fadedPair 71 = .ok (.iconst (-1), 1) := by decide +kernel
theorem dX5_fadedPair_72 : decode cX5_fadedPair 72 = .ok (.ireturn, 1) := by decide +kernel
theorem dX5_firstTwins_0 : decode cX5_firstTwins 0 = .ok (.iconst 0, 1) := by decide +kernel
theorem dX5_firstTwins_1 : decode cX5_firstTwins 1 = .ok (.istore_n 1, 1) := by decide +kernel
theorem dX5_firstTwins_2 : decode cX5_firstTwins 2 = .ok (.iload_n 1, 1) := by decide +kernel
theorem dX5_firstTwins_3 : decode cX5_firstTwins 3 = .ok (.aload_n 0, 1) := by decide +kernel
theorem dX5_firstTwins_4 : decode cX5_firstTwins 4 = .ok (.getfield 30, 3) := by decide +kernel
theorem dX5_firstTwins_7 : decode cX5_firstTwins 7 = .ok (.if_icmp .ge 47, 3) := by decide +kernel
theorem dX5_firstTwins_10 : decode cX5_firstTwins 10 = .ok (.iload_n 1, 1) := by decide +kernel
theorem dX5_firstTwins_11 : decode cX5_firstTwins 11 = .ok (.iconst 1, 1) := by decide +kernel
theorem dX5_firstTwins_12 : decode cX5_firstTwins 12 = .ok (.iadd, 1) := by decide +kernel
theorem dX5_firstTwins_13 : decode cX5_firstTwins 13 = .ok (.istore_n 2, 1) := by decide +kernel
theorem dX5_firstTwins_14 : decode cX5_firstTwins 14 = .ok (.iload_n 2, 1) := by decide +kernel
theorem dX5_firstTwins_15 : decode cX5_firstTwins 15 = .ok (.aload_n 0, 1) := by decide +kernel
theorem dX5_firstTwins_16 : decode cX5_firstTwins 16 = .ok (.getfield 30, 3) := by decide +kernel
theorem dX5_firstTwins_19 : decode cX5_firstTwins 19 = .ok (.if_icmp .ge 29, 3) := by decide +kernel
theorem dX5_firstTwins_22 : decode cX5_firstTwins 22 = .ok (.aload_n 0, 1) := by decide +kernel
theorem dX5_firstTwins_23 : decode cX5_firstTwins 23 = .ok (.iload_n 1, 1) := by decide +kernel
theorem dX5_firstTwins_24 : decode cX5_firstTwins 24 = .ok (.invokevirtual 63, 3) := by decide +kernel
theorem dX5_firstTwins_27 : decode cX5_firstTwins 27 = .ok (.aload_n 0, 1) := by decide +kernel
theorem dX5_firstTwins_28 : decode cX5_firstTwins 28 = .ok (.iload_n 2, 1) := by decide +kernel
theorem dX5_firstTwins_29 : decode cX5_firstTwins 29 = .ok (.invokevirtual 63, 3) := by decide +kernel
theorem dX5_firstTwins_32 : decode cX5_firstTwins 32 = .ok (.if_icmp .ne 10, 3) := by decide +kernel
theorem dX5_firstTwins_35 : decode cX5_firstTwins 35 = .ok (.bipush 10, 2) := by decide +kernel
theorem dX5_firstTwins_37 : decode cX5_firstTwins 37 = .ok (.iload_n 1, 1) := by decide +kernel
theorem dX5_firstTwins_38 : decode cX5_firstTwins 38 = .ok (.imul, 1) := by decide +kernel
theorem dX5_firstTwins_39 : decode cX5_firstTwins 39 = .ok (.iload_n 2, 1) := by decide +kernel
theorem dX5_firstTwins_40 : decode cX5_firstTwins 40 = .ok (.iadd, 1) := by decide +kernel
theorem dX5_firstTwins_41 : decode cX5_firstTwins 41 = .ok (.ireturn, 1) := by decide +kernel
theorem dX5_firstTwins_42 : decode cX5_firstTwins 42 = .ok (.iinc 2 1, 3) := by decide +kernel
theorem dX5_firstTwins_45 : decode cX5_firstTwins 45 = .ok (.goto (-31), 3) := by decide +kernel
theorem dX5_firstTwins_48 : decode cX5_firstTwins 48 = .ok (.iinc 1 1, 3) := by decide +kernel
theorem dX5_firstTwins_51 : decode cX5_firstTwins 51 = .ok (.goto (-49), 3) := by decide +kernel
theorem dX5_firstTwins_54 : decode cX5_firstTwins 54 = .ok (.iconst (-1), 1) := by decide +kernel
theorem dX5_firstTwins_55 : decode cX5_firstTwins 55 = .ok (.ireturn, 1) := by decide +kernel
theorem dX6_surest_0 : decode cX6_surest 0 = .ok (.aload_n 0, 1) := by decide +kernel
theorem dX6_surest_1 : decode cX6_surest 1 = .ok (.iload_n 1, 1) := by decide +kernel
theorem dX6_surest_2 : decode cX6_surest 2 = .ok (.iload_n 2, 1) := by decide +kernel
theorem dX6_surest_3 : decode cX6_surest 3 = .ok (.invokevirtual 9, 3) := by decide +kernel
theorem dX6_surest_6 : decode cX6_surest 6 = .ok (.istore 4, 2) := by decide +kernel
theorem dX6_surest_8 : decode cX6_surest 8 = .ok (.iconst (-1), 1) := by decide +kernel
theorem dX6_surest_9 : decode cX6_surest 9 = .ok (.istore 5, 2) := by decide +kernel
theorem dX6_surest_11 : decode cX6_surest 11 = .ok (.iconst 0, 1) := by decide +kernel
theorem dX6_surest_12 : decode cX6_surest 12 = .ok (.istore 6, 2) := by decide +kernel
theorem dX6_surest_14 : decode cX6_surest 14 = .ok (.aload_n 0, 1) := by decide +kernel
theorem dX6_surest_15 : decode cX6_surest 15 = .ok (.invokevirtual 15, 3) := by decide +kernel
theorem dX6_surest_18 : decode cX6_surest 18 = .ok (.istore 7, 2) := by decide +kernel
theorem dX6_surest_20 : decode cX6_surest 20 = .ok (.iconst 0, 1) := by decide +kernel
theorem dX6_surest_21 : decode cX6_surest 21 = .ok (.istore 8, 2) := by decide +kernel
theorem dX6_surest_23 : decode cX6_surest 23 = .ok (.iload 8, 2) := by decide +kernel
theorem dX6_surest_25 : decode cX6_surest 25 = .ok (.iload 7, 2) := by decide +kernel
theorem dX6_surest_27 : decode cX6_surest 27 = .ok (.if_icmp .gt 46, 3) := by decide +kernel
theorem dX6_surest_30 : decode cX6_surest 30 = .ok (.iload 8, 2) := by decide +kernel
theorem dX6_surest_32 : decode cX6_surest 32 = .ok (.iload_n 1, 1) := by decide +kernel
theorem dX6_surest_33 : decode cX6_surest 33 = .ok (.iload_n 2, 1) := by decide +kernel
theorem dX6_surest_34 : decode cX6_surest 34 = .ok (.iload_n 3, 1) := by decide +kernel
theorem dX6_surest_35 : decode cX6_surest 35 = .ok (.invokestatic 19, 3) := by decide +kernel
theorem dX6_surest_38 : decode cX6_surest 38 = .ok (.ifCond .eq 29, 3) := by decide +kernel
theorem dX6_surest_41 : decode cX6_surest 41 = .ok (.aload_n 0, 1) := by decide +kernel
theorem dX6_surest_42 : decode cX6_surest 42 = .ok (.iload 4, 2) := by decide +kernel
theorem dX6_surest_44 : decode cX6_surest 44 = .ok (.iload 8, 2) := by decide +kernel
theorem dX6_surest_46 : decode cX6_surest 46 = .ok (.iload_n 2, 1) := by decide +kernel
theorem dX6_surest_47 : decode cX6_surest 47 = .ok (.invokestatic 25, 3) := by decide +kernel
theorem dX6_surest_50 : decode cX6_surest 50 = .ok (.istore 9, 2) := by decide +kernel
theorem dX6_surest_52 : decode cX6_surest 52 = .ok (.iload 9, 2) := by decide +kernel
theorem dX6_surest_54 : decode cX6_surest 54 = .ok (.iload 6, 2) := by decide +kernel
theorem dX6_surest_56 : decode cX6_surest 56 = .ok (.if_icmp .le 11, 3) := by decide +kernel
theorem dX6_surest_59 : decode cX6_surest 59 = .ok (.iload 9, 2) := by decide +kernel
theorem dX6_surest_61 : decode cX6_surest 61 = .ok (.istore 6, 2) := by decide +kernel
theorem dX6_surest_63 : decode cX6_surest 63 = .ok (.iload 8, 2) := by decide +kernel
theorem dX6_surest_65 : decode cX6_surest 65 = .ok (.istore 5, 2) := by decide +kernel
theorem dX6_surest_67 : decode cX6_surest 67 = .ok (.iinc 8 1, 3) := by decide +kernel
theorem dX6_surest_70 : decode cX6_surest 70 = .ok (.goto (-47), 3) := by decide +kernel
theorem dX6_surest_73 : decode cX6_surest 73 = .ok (.iload 5, 2) := by decide +kernel
theorem dX6_surest_75 : decode cX6_surest 75 = .ok (.ireturn, 1) := by decide +kernel
theorem dX6_surestWitness_0 : decode cX6_surestWitness 0 = .ok (.iconst (-1), 1) := by decide +kernel
theorem dX6_surestWitness_1 : decode cX6_surestWitness 1 = .ok (.istore_n 3, 1) := by decide +kernel
theorem dX6_surestWitness_2 : decode cX6_surestWitness 2 = .ok (.iconst 0, 1) := by decide +kernel
theorem dX6_surestWitness_3 : decode cX6_surestWitness 3 = .ok (.istore 4, 2) := by decide +kernel
theorem dX6_surestWitness_5 : decode cX6_surestWitness 5 = .ok (.iconst 0, 1) := by decide +kernel
theorem dX6_surestWitness_6 : decode cX6_surestWitness 6 = .ok (.istore 5, 2) := by decide +kernel
theorem dX6_surestWitness_8 : decode cX6_surestWitness 8 = .ok (.iload 5, 2) := by decide +kernel
theorem dX6_surestWitness_10 : decode cX6_surestWitness 10 = .ok (.aload_n 0, 1) := by decide +kernel
theorem dX6_surestWitness_11 : decode cX6_surestWitness 11 = .ok (.getfield 31, 3) := by decide +kernel
theorem dX6_surestWitness_14 : decode cX6_surestWitness 14 = .ok (.if_icmp .ge 57, 3) := by decide +kernel
theorem dX6_surestWitness_17 : decode cX6_surestWitness 17 = .ok (.aload_n 0, 1) := by decide +kernel
theorem dX6_surestWitness_18 : decode cX6_surestWitness 18 = .ok (.iload 5, 2) := by decide +kernel
theorem dX6_surestWitness_20 : decode cX6_surestWitness 20 = .ok (.iload_n 1, 1) := by decide +kernel
theorem dX6_surestWitness_21 : decode cX6_surestWitness 21 = .ok (.invokevirtual 35, 3) := by decide +kernel
theorem dX6_surestWitness_24 : decode cX6_surestWitness 24 = .ok (.ifCond .eq 41, 3) := by decide +kernel
theorem dX6_surestWitness_27 : decode cX6_surestWitness 27 = .ok (.iload_n 2, 1) := by decide +kernel
theorem dX6_surestWitness_28 : decode cX6_surestWitness 28 = .ok (.iload 5, 2) := by decide +kernel
theorem dX6_surestWitness_30 : decode cX6_surestWitness 30 = .ok (.invokestatic 39, 3) := by decide +kernel
theorem dX6_surestWitness_33 : decode cX6_surestWitness 33 = .ok (.ifCond .ne 32, 3) := by decide +kernel
theorem dX6_surestWitness_36 : decode cX6_surestWitness 36 = .ok (.aload_n 0, 1) := by decide +kernel
theorem dX6_surestWitness_37 : decode cX6_surestWitness 37 = .ok (.aload_n 0, 1) := by decide +kernel
theorem dX6_surestWitness_38 : decode cX6_surestWitness 38 = .ok (.iload 5, 2) := by decide +kernel
theorem dX6_surestWitness_40 : decode cX6_surestWitness 40 = .ok (.iload_n 1, 1) := by decide +kernel
theorem dX6_surestWitness_41 : decode cX6_surestWitness 41 = .ok (.invokevirtual 9, 3) := by decide +kernel
theorem dX6_surestWitness_44 : decode cX6_surestWitness 44 = .ok (.iload_n 2, 1) := by decide +kernel
theorem dX6_surestWitness_45 : decode cX6_surestWitness 45 = .ok (.iload_n 1, 1) := by decide +kernel
theorem dX6_surestWitness_46 : decode cX6_surestWitness 46 = .ok (.invokestatic 25, 3) := by decide +kernel
theorem dX6_surestWitness_49 : decode cX6_surestWitness 49 = .ok (.istore 6, 2) := by decide +kernel
theorem dX6_surestWitness_51 : decode cX6_surestWitness 51 = .ok (.iload 6, 2) := by decide +kernel
theorem dX6_surestWitness_53 : decode cX6_surestWitness 53 = .ok (.iload 4, 2) := by decide +kernel
theorem dX6_surestWitness_55 : decode cX6_surestWitness 55 = .ok (.if_icmp .le 10, 3) := by decide +kernel
theorem dX6_surestWitness_58 : decode cX6_surestWitness 58 = .ok (.iload 6, 2) := by decide +kernel
theorem dX6_surestWitness_60 : decode cX6_surestWitness 60 = .ok (.istore 4, 2) := by decide +kernel
theorem dX6_surestWitness_62 : decode cX6_surestWitness 62 = .ok (.iload 5, 2) := by decide +kernel
theorem dX6_surestWitness_64 : decode cX6_surestWitness 64 = .ok (.istore_n 3, 1) := by decide +kernel
theorem dX6_surestWitness_65 : decode cX6_surestWitness 65 = .ok (.iinc 5 1, 3) := by decide +kernel
theorem dX6_surestWitness_68 : decode cX6_surestWitness 68 = .ok (.goto (-60), 3) := by decide +kernel
theorem dX6_surestWitness_71 : decode cX6_surestWitness 71 = .ok (.iload_n 3, 1) := by decide +kernel
theorem dX6_surestWitness_72 : decode cX6_surestWitness 72 = .ok (.ireturn, 1) := by decide +kernel
theorem dX6_fewestMarks_0 : decode cX6_fewestMarks 0 = .ok (.aload_n 0, 1) := by decide +kernel
theorem dX6_fewestMarks_1 : decode cX6_fewestMarks 1 = .ok (.iload_n 1, 1) := by decide +kernel
theorem dX6_fewestMarks_2 : decode cX6_fewestMarks 2 = .ok (.iload_n 2, 1) := by decide +kernel
theorem dX6_fewestMarks_3 : decode cX6_fewestMarks 3 = .ok (.iconst 1, 1) := by decide +kernel
theorem dX6_fewestMarks_4 : decode cX6_fewestMarks 4 = .ok (.iload_n 3, 1) := by decide +kernel
theorem dX6_fewestMarks_5 : decode cX6_fewestMarks 5 = .ok (.ishl, 1) := by decide +kernel
theorem dX6_fewestMarks_6 : decode cX6_fewestMarks 6 = .ok (.iconst (-1), 1) := by decide +kernel
theorem dX6_fewestMarks_7 : decode cX6_fewestMarks 7 = .ok (.ixor, 1) := by decide +kernel
theorem dX6_fewestMarks_8 : decode cX6_fewestMarks 8 = .ok (.iand, 1) := by decide +kernel
theorem dX6_fewestMarks_9 : decode cX6_fewestMarks 9 = .ok (.invokestatic 42, 3) := by decide +kernel
theorem dX6_fewestMarks_12 : decode cX6_fewestMarks 12 = .ok (.istore 5, 2) := by decide +kernel
theorem dX6_fewestMarks_14 : decode cX6_fewestMarks 14 = .ok (.iconst (-1), 1) := by decide +kernel
theorem dX6_fewestMarks_15 : decode cX6_fewestMarks 15 = .ok (.istore 6, 2) := by decide +kernel
theorem dX6_fewestMarks_17 : decode cX6_fewestMarks 17 = .ok (.bipush 9, 2) := by decide +kernel
theorem dX6_fewestMarks_19 : decode cX6_fewestMarks 19 = .ok (.istore 7, 2) := by decide +kernel
theorem dX6_fewestMarks_21 : decode cX6_fewestMarks 21 = .ok (.iconst 0, 1) := by decide +kernel
theorem dX6_fewestMarks_22 : decode cX6_fewestMarks 22 = .ok (.istore 8, 2) := by decide +kernel
theorem dX6_fewestMarks_24 : decode cX6_fewestMarks 24 = .ok (.iload 8, 2) := by decide +kernel
theorem dX6_fewestMarks_26 : decode cX6_fewestMarks 26 = .ok (.sipush 255, 3) := by decide +kernel
theorem dX6_fewestMarks_29 : decode cX6_fewestMarks 29 = .ok (.if_icmp .gt 52, 3) := by decide +kernel
theorem dX6_fewestMarks_32 : decode cX6_fewestMarks 32 = .ok (.iload 8, 2) := by decide +kernel
theorem dX6_fewestMarks_34 : decode cX6_fewestMarks 34 = .ok (.invokestatic 46, 3) := by decide +kernel
theorem dX6_fewestMarks_37 : decode cX6_fewestMarks 37 = .ok (.istore 9, 2) := by decide +kernel
theorem dX6_fewestMarks_39 : decode cX6_fewestMarks 39 = .ok (.iload 9, 2) := by decide +kernel
theorem dX6_fewestMarks_41 : decode cX6_fewestMarks 41 = .ok (.iload 7, 2) := by decide +kernel
theorem dX6_fewestMarks_43 : decode cX6_fewestMarks 43 = .ok (.if_icmp .ge 32, 3) := by decide +kernel
theorem dX6_fewestMarks_46 : decode cX6_fewestMarks 46 = .ok (.aload_n 0, 1) := by decide +kernel
theorem dX6_fewestMarks_47 : decode cX6_fewestMarks 47 = .ok (.iload_n 1, 1) := by decide +kernel
theorem dX6_fewestMarks_48 : decode cX6_fewestMarks 48 = .ok (.iload_n 3, 1) := by decide +kernel
theorem dX6_fewestMarks_49 : decode cX6_fewestMarks 49 = .ok (.aload_n 0, 1) := by decide +kernel
theorem dX6_fewestMarks_50 : decode cX6_fewestMarks 50 = .ok (.iload_n 3, 1) := by decide +kernel
theorem dX6_fewestMarks_51 : decode cX6_fewestMarks 51 = .ok (.invokevirtual 52, 3) := by decide +kernel
theorem dX6_fewestMarks_54 : decode cX6_fewestMarks 54 = .ok (.iload 8, 2) := by decide +kernel
theorem dX6_fewestMarks_56 : decode cX6_fewestMarks 56 = .ok (.ixor, 1) := by decide +kernel
theorem dX6_fewestMarks_57 : decode cX6_fewestMarks 57 = .ok (.iload 5, 2) := by decide +kernel
theorem dX6_fewestMarks_59 : decode cX6_fewestMarks 59 = .ok (.invokestatic 55, 3) := by decide +kernel
theorem dX6_fewestMarks_62 : decode cX6_fewestMarks 62 = .ok (.iload 4, 2) := by decide +kernel
theorem dX6_fewestMarks_64 : decode cX6_fewestMarks 64 = .ok (.if_icmp .lt 11, 3) := by decide +kernel
theorem dX6_fewestMarks_67 : decode cX6_fewestMarks 67 = .ok (.iload 9, 2) := by decide +kernel
theorem dX6_fewestMarks_69 : decode cX6_fewestMarks 69 = .ok (.istore 7, 2) := by decide +kernel
theorem dX6_fewestMarks_71 : decode cX6_fewestMarks 71 = .ok (.iload 8, 2) := by decide +kernel
theorem dX6_fewestMarks_73 : decode cX6_fewestMarks 73 = .ok (.istore 6, 2) := by decide +kernel
theorem dX6_fewestMarks_75 : decode cX6_fewestMarks 75 = .ok (.iinc 8 1, 3) := by decide +kernel
theorem dX6_fewestMarks_78 : decode cX6_fewestMarks 78 = .ok (.goto (-54), 3) := by decide +kernel
theorem dX6_fewestMarks_81 : decode cX6_fewestMarks 81 = .ok (.iload 6, 2) := by decide +kernel
theorem dX6_fewestMarks_83 : decode cX6_fewestMarks 83 = .ok (.ireturn, 1) := by decide +kernel
theorem dX6_countPicking_0 : decode cX6_countPicking 0 = .ok (.iconst 0, 1) := by decide +kernel
theorem dX6_countPicking_1 : decode cX6_countPicking 1 = .ok (.istore 5, 2) := by decide +kernel
theorem dX6_countPicking_3 : decode cX6_countPicking 3 = .ok (.aload_n 0, 1) := by decide +kernel
theorem dX6_countPicking_4 : decode cX6_countPicking 4 = .ok (.invokevirtual 15, 3) := by decide +kernel
theorem dX6_countPicking_7 : decode cX6_countPicking 7 = .ok (.istore 6, 2) := by decide +kernel
theorem dX6_countPicking_9 : decode cX6_countPicking 9 = .ok (.iconst 0, 1) := by decide +kernel
theorem dX6_countPicking_10 : decode cX6_countPicking 10 = .ok (.istore 7, 2) := by decide +kernel
theorem dX6_countPicking_12 : decode cX6_countPicking 12 = .ok (.iload 7, 2) := by decide +kernel
theorem dX6_countPicking_14 : decode cX6_countPicking 14 = .ok (.iload 6, 2) := by decide +kernel
theorem dX6_countPicking_16 : decode cX6_countPicking 16 = .ok (.if_icmp .gt 35, 3) := by decide +kernel
theorem dX6_countPicking_19 : decode cX6_countPicking 19 = .ok (.iload 7, 2) := by decide +kernel
theorem dX6_countPicking_21 : decode cX6_countPicking 21 = .ok (.iload_n 2, 1) := by decide +kernel
theorem dX6_countPicking_22 : decode cX6_countPicking 22 = .ok (.iload_n 3, 1) := by decide +kernel
theorem dX6_countPicking_23 : decode cX6_countPicking 23 = .ok (.iload 4, 2) := by decide +kernel
theorem dX6_countPicking_25 : decode cX6_countPicking 25 = .ok (.invokestatic 19, 3) := by decide +kernel
theorem dX6_countPicking_28 : decode cX6_countPicking 28 = .ok (.ifCond .eq 17, 3) := by decide +kernel
theorem dX6_countPicking_31 : decode cX6_countPicking 31 = .ok (.aload_n 0, 1) := by decide +kernel
theorem dX6_countPicking_32 : decode cX6_countPicking 32 = .ok (.iload_n 1, 1) := by decide +kernel
theorem dX6_countPicking_33 : decode cX6_countPicking 33 = .ok (.iload 7, 2) := by decide +kernel
theorem dX6_countPicking_35 : decode cX6_countPicking 35 = .ok (.invokestatic 42, 3) := by decide +kernel
theorem dX6_countPicking_38 : decode cX6_countPicking 38 = .ok (.iload_n 3, 1) := by decide +kernel
theorem dX6_countPicking_39 : decode cX6_countPicking 39 = .ok (.if_icmp .ne 6, 3) := by decide +kernel
theorem dX6_countPicking_42 : decode cX6_countPicking 42 = .ok (.iinc 5 1, 3) := by decide +kernel
theorem dX6_countPicking_45 : decode cX6_countPicking 45 = .ok (.iinc 7 1, 3) := by decide +kernel
theorem dX6_countPicking_48 : decode cX6_countPicking 48 = .ok (.goto (-36), 3) := by decide +kernel
theorem dX6_countPicking_51 : decode cX6_countPicking 51 = .ok (.iload 5, 2) := by decide +kernel
theorem dX6_countPicking_53 : decode cX6_countPicking 53 = .ok (.ireturn, 1) := by decide +kernel
theorem dX6_leastPicking_0 : decode cX6_leastPicking 0 = .ok (.aload_n 0, 1) := by decide +kernel
theorem dX6_leastPicking_1 : decode cX6_leastPicking 1 = .ok (.invokevirtual 15, 3) := by decide +kernel
theorem dX6_leastPicking_4 : decode cX6_leastPicking 4 = .ok (.istore 5, 2) := by decide +kernel
theorem dX6_leastPicking_6 : decode cX6_leastPicking 6 = .ok (.iconst 0, 1) := by decide +kernel
theorem dX6_leastPicking_7 : decode cX6_leastPicking 7 = .ok (.istore 6, 2) := by decide +kernel
theorem dX6_leastPicking_9 : decode cX6_leastPicking 9 = .ok (.iload 6, 2) := by decide +kernel
theorem dX6_leastPicking_11 : decode cX6_leastPicking 11 = .ok (.iload 5, 2) := by decide +kernel
theorem dX6_leastPicking_13 : decode cX6_leastPicking 13 = .ok (.if_icmp .gt 35, 3) := by decide +kernel
theorem dX6_leastPicking_16 : decode cX6_leastPicking 16 = .ok (.iload 6, 2) := by decide +kernel
theorem dX6_leastPicking_18 : decode cX6_leastPicking 18 = .ok (.iload_n 2, 1) := by decide +kernel
theorem dX6_leastPicking_19 : decode cX6_leastPicking 19 = .ok (.iload_n 3, 1) := by decide +kernel
theorem dX6_leastPicking_20 : decode cX6_leastPicking 20 = .ok (.iload 4, 2) := by decide +kernel
theorem dX6_leastPicking_22 : decode cX6_leastPicking 22 = .ok (.invokestatic 19, 3) := by decide +kernel
theorem dX6_leastPicking_25 : decode cX6_leastPicking 25 = .ok (.ifCond .eq 17, 3) := by decide +kernel
theorem dX6_leastPicking_28 : decode cX6_leastPicking 28 = .ok (.aload_n 0, 1) := by decide +kernel
theorem dX6_leastPicking_29 : decode cX6_leastPicking 29 = .ok (.iload_n 1, 1) := by decide +kernel
theorem dX6_leastPicking_30 : decode cX6_leastPicking 30 = .ok (.iload 6, 2) := by decide +kernel
theorem dX6_leastPicking_32 : decode cX6_leastPicking 32 = .ok (.invokestatic 42, 3) := by decide +kernel
theorem dX6_leastPicking_35 : decode cX6_leastPicking 35 = .ok (.iload_n 3, 1) := by decide +kernel
theorem dX6_leastPicking_36 : decode cX6_leastPicking 36 = .ok (.if_icmp .ne 6, 3) := by decide +kernel
theorem dX6_leastPicking_39 : decode cX6_leastPicking 39 = .ok (.iload 6, 2) := by decide +kernel
theorem dX6_leastPicking_41 : decode cX6_leastPicking 41 = .ok (.ireturn, 1) := by decide +kernel
theorem dX6_leastPicking_42 : decode cX6_leastPicking 42 = .ok (.iinc 6 1, 3) := by decide +kernel
theorem dX6_leastPicking_45 : decode cX6_leastPicking 45 = .ok (.goto (-36), 3) := by decide +kernel
theorem dX6_leastPicking_48 : decode cX6_leastPicking 48 = .ok (.iconst (-1), 1) := by decide +kernel
theorem dX6_leastPicking_49 : decode cX6_leastPicking 49 = .ok (.ireturn, 1) := by decide +kernel
theorem dX6_widest_0 : decode cX6_widest 0 = .ok (.iconst (-1), 1) := by decide +kernel
theorem dX6_widest_1 : decode cX6_widest 1 = .ok (.istore_n 3, 1) := by decide +kernel
theorem dX6_widest_2 : decode cX6_widest 2 = .ok (.iconst (-1), 1) := by decide +kernel
theorem dX6_widest_3 : decode cX6_widest 3 = .ok (.istore 4, 2) := by decide +kernel
theorem dX6_widest_5 : decode cX6_widest 5 = .ok (.aload_n 0, 1) := by decide +kernel
theorem dX6_widest_6 : decode cX6_widest 6 = .ok (.invokevirtual 15, 3) := by decide +kernel
theorem dX6_widest_9 : decode cX6_widest 9 = .ok (.istore 5, 2) := by decide +kernel
theorem dX6_widest_11 : decode cX6_widest 11 = .ok (.iconst 0, 1) := by decide +kernel
theorem dX6_widest_12 : decode cX6_widest 12 = .ok (.istore 6, 2) := by decide +kernel
theorem dX6_widest_14 : decode cX6_widest 14 = .ok (.iload 6, 2) := by decide +kernel
theorem dX6_widest_16 : decode cX6_widest 16 = .ok (.iload 5, 2) := by decide +kernel
theorem dX6_widest_18 : decode cX6_widest 18 = .ok (.if_icmp .gt 42, 3) := by decide +kernel
theorem dX6_widest_21 : decode cX6_widest 21 = .ok (.iload 6, 2) := by decide +kernel
theorem dX6_widest_23 : decode cX6_widest 23 = .ok (.iload_n 2, 1) := by decide +kernel
theorem dX6_widest_24 : decode cX6_widest 24 = .ok (.iconst 3, 1) := by decide +kernel
theorem dX6_widest_25 : decode cX6_widest 25 = .ok (.invokestatic 59, 3) := by decide +kernel
theorem dX6_widest_28 : decode cX6_widest 28 = .ok (.ifCond .eq 26, 3) := by decide +kernel
theorem dX6_widest_31 : decode cX6_widest 31 = .ok (.aload_n 0, 1) := by decide +kernel
theorem dX6_widest_32 : decode cX6_widest 32 = .ok (.iload_n 1, 1) := by decide +kernel
theorem dX6_widest_33 : decode cX6_widest 33 = .ok (.iload 6, 2) := by decide +kernel
theorem dX6_widest_35 : decode cX6_widest 35 = .ok (.invokestatic 63, 3) := by decide +kernel
theorem dX6_widest_38 : decode cX6_widest 38 = .ok (.istore 7, 2) := by decide +kernel
theorem dX6_widest_40 : decode cX6_widest 40 = .ok (.iload 7, 2) := by decide +kernel
theorem dX6_widest_42 : decode cX6_widest 42 = .ok (.iload 4, 2) := by decide +kernel
theorem dX6_widest_44 : decode cX6_widest 44 = .ok (.if_icmp .le 10, 3) := by decide +kernel
theorem dX6_widest_47 : decode cX6_widest 47 = .ok (.iload 7, 2) := by decide +kernel
theorem dX6_widest_49 : decode cX6_widest 49 = .ok (.istore 4, 2) := by decide +kernel
theorem dX6_widest_51 : decode cX6_widest 51 = .ok (.iload 6, 2) := by decide +kernel
theorem dX6_widest_53 : decode cX6_widest 53 = .ok (.istore_n 3, 1) := by decide +kernel
theorem dX6_widest_54 : decode cX6_widest 54 = .ok (.iinc 6 1, 3) := by decide +kernel
theorem dX6_widest_57 : decode cX6_widest 57 = .ok (.goto (-43), 3) := by decide +kernel
theorem dX6_widest_60 : decode cX6_widest 60 = .ok (.iload_n 3, 1) := by decide +kernel
theorem dX6_widest_61 : decode cX6_widest 61 = .ok (.ireturn, 1) := by decide +kernel
theorem dX6_isRowOf_0 : decode cX6_isRowOf 0 = .ok (.iload_n 0, 1) := by decide +kernel
theorem dX6_isRowOf_1 : decode cX6_isRowOf 1 = .ok (.invokestatic 46, 3) := by decide +kernel
theorem dX6_isRowOf_4 : decode cX6_isRowOf 4 = .ok (.iload_n 2, 1) := by decide +kernel
theorem dX6_isRowOf_5 : decode cX6_isRowOf 5 = .ok (.if_icmp .ne 15, 3) := by decide +kernel
theorem dX6_isRowOf_8 : decode cX6_isRowOf 8 = .ok (.iload_n 0, 1) := by decide +kernel
theorem dX6_isRowOf_9 : decode cX6_isRowOf 9 = .ok (.iload_n 1, 1) := by decide +kernel
theorem dX6_isRowOf_10 : decode cX6_isRowOf 10 = .ok (.invokestatic 39, 3) := by decide +kernel
theorem dX6_isRowOf_13 : decode cX6_isRowOf 13 = .ok (.ifCond .ne 7, 3) := by decide +kernel
theorem dX6_isRowOf_16 : decode cX6_isRowOf 16 = .ok (.iconst 1, 1) := by decide +kernel
theorem dX6_isRowOf_17 : decode cX6_isRowOf 17 = .ok (.goto 4, 3) := by decide +kernel
theorem dX6_isRowOf_20 : decode cX6_isRowOf 20 = .ok (.iconst 0, 1) := by decide +kernel
theorem dX6_isRowOf_21 : decode cX6_isRowOf 21 = .ok (.ireturn, 1) := by decide +kernel
theorem dX6_isRowWith_0 : decode cX6_isRowWith 0 = .ok (.iload_n 0, 1) := by decide +kernel
theorem dX6_isRowWith_1 : decode cX6_isRowWith 1 = .ok (.iload_n 1, 1) := by decide +kernel
theorem dX6_isRowWith_2 : decode cX6_isRowWith 2 = .ok (.iload_n 3, 1) := by decide +kernel
theorem dX6_isRowWith_3 : decode cX6_isRowWith 3 = .ok (.invokestatic 59, 3) := by decide +kernel
theorem dX6_isRowWith_6 : decode cX6_isRowWith 6 = .ok (.ifCond .eq 15, 3) := by decide +kernel
theorem dX6_isRowWith_9 : decode cX6_isRowWith 9 = .ok (.iload_n 0, 1) := by decide +kernel
theorem dX6_isRowWith_10 : decode cX6_isRowWith 10 = .ok (.iload_n 2, 1) := by decide +kernel
theorem dX6_isRowWith_11 : decode cX6_isRowWith 11 = .ok (.invokestatic 39, 3) := by decide +kernel
theorem dX6_isRowWith_14 : decode cX6_isRowWith 14 = .ok (.ifCond .eq 7, 3) := by decide +kernel
theorem dX6_isRowWith_17 : decode cX6_isRowWith 17 = .ok (.iconst 1, 1) := by decide +kernel
theorem dX6_isRowWith_18 : decode cX6_isRowWith 18 = .ok (.goto 4, 3) := by decide +kernel
theorem dX6_isRowWith_21 : decode cX6_isRowWith 21 = .ok (.iconst 0, 1) := by decide +kernel
theorem dX6_isRowWith_22 : decode cX6_isRowWith 22 = .ok (.ireturn, 1) := by decide +kernel
theorem dX7_init_0 : decode cX7_init 0 = .ok (.aload_n 0, 1) := by decide +kernel
theorem dX7_init_1 : decode cX7_init 1 = .ok (.invokespecial 3, 3) := by decide +kernel
theorem dX7_init_4 : decode cX7_init 4 = .ok (.aload_n 0, 1) := by decide +kernel
theorem dX7_init_5 : decode cX7_init 5 = .ok (.bipush 8, 2) := by decide +kernel
theorem dX7_init_7 : decode cX7_init 7 = .ok (.newarray .int, 2) := by decide +kernel
theorem dX7_init_9 : decode cX7_init 9 = .ok (.putfield 9, 3) := by decide +kernel
theorem dX7_init_12 : decode cX7_init 12 = .ok (.aload_n 0, 1) := by decide +kernel
theorem dX7_init_13 : decode cX7_init 13 = .ok (.bipush 8, 2) := by decide +kernel
theorem dX7_init_15 : decode cX7_init 15 = .ok (.newarray .int, 2) := by decide +kernel
theorem dX7_init_17 : decode cX7_init 17 = .ok (.putfield 15, 3) := by decide +kernel
theorem dX7_init_20 : decode cX7_init 20 = .ok (.aload_n 0, 1) := by decide +kernel
theorem dX7_init_21 : decode cX7_init 21 = .ok (.bipush 8, 2) := by decide +kernel
theorem dX7_init_23 : decode cX7_init 23 = .ok (.newarray .int, 2) := by decide +kernel
theorem dX7_init_25 : decode cX7_init 25 = .ok (.putfield 18, 3) := by decide +kernel
theorem dX7_init_28 : decode cX7_init 28 = .ok (.aload_n 0, 1) := by decide +kernel
theorem dX7_init_29 : decode cX7_init 29 = .ok (.bipush 8, 2) := by decide +kernel
theorem dX7_init_31 : decode cX7_init 31 = .ok (.newarray .int, 2) := by decide +kernel
theorem dX7_init_33 : decode cX7_init 33 = .ok (.putfield 21, 3) := by decide +kernel
theorem dX7_init_36 : decode cX7_init 36 = .ok (.return_, 1) := by decide +kernel
theorem dX7_empty_0 : decode cX7_empty 0 = .ok (.aload_n 0, 1) := by decide +kernel
theorem dX7_empty_1 : decode cX7_empty 1 = .ok (.iconst 0, 1) := by decide +kernel
theorem dX7_empty_2 : decode cX7_empty 2 = .ok (.putfield 24, 3) := by decide +kernel
theorem dX7_empty_5 : decode cX7_empty 5 = .ok (.return_, 1) := by decide +kernel
theorem dX7_hasRoom_0 : decode cX7_hasRoom 0 = .ok (.aload_n 0, 1) := by decide +kernel
theorem dX7_hasRoom_1 : decode cX7_hasRoom 1 = .ok (.getfield 24, 3) := by decide +kernel
theorem dX7_hasRoom_4 : decode cX7_hasRoom 4 = .ok (.bipush 8, 2) := by decide +kernel
theorem dX7_hasRoom_6 : decode cX7_hasRoom 6 = .ok (.if_icmp .ge 7, 3) := by decide +kernel
theorem dX7_hasRoom_9 : decode cX7_hasRoom 9 = .ok (.iconst 1, 1) := by decide +kernel
theorem dX7_hasRoom_10 : decode cX7_hasRoom 10 = .ok (.goto 4, 3) := by decide +kernel
theorem dX7_hasRoom_13 : decode cX7_hasRoom 13 = .ok (.iconst 0, 1) := by decide +kernel
theorem dX7_hasRoom_14 : decode cX7_hasRoom 14 = .ok (.ireturn, 1) := by decide +kernel
theorem dX7_add_0 : decode cX7_add 0 = .ok (.aload_n 0, 1) := by decide +kernel
theorem dX7_add_1 : decode cX7_add 1 = .ok (.getfield 24, 3) := by decide +kernel
theorem dX7_add_4 : decode cX7_add 4 = .ok (.iconst 0, 1) := by decide +kernel
theorem dX7_add_5 : decode cX7_add 5 = .ok (.bipush 7, 2) := by decide +kernel
theorem dX7_add_7 : decode cX7_add 7 = .ok (.invokestatic 28, 3) := by decide +kernel
theorem dX7_add_10 : decode cX7_add 10 = .ok (.ifCond .eq 54, 3) := by decide +kernel
theorem dX7_add_13 : decode cX7_add 13 = .ok (.aload_n 0, 1) := by decide +kernel
theorem dX7_add_14 : decode cX7_add 14 = .ok (.getfield 9, 3) := by decide +kernel
theorem dX7_add_17 : decode cX7_add 17 = .ok (.aload_n 0, 1) := by decide +kernel
theorem dX7_add_18 : decode cX7_add 18 = .ok (.getfield 24, 3) := by decide +kernel
theorem dX7_add_21 : decode cX7_add 21 = .ok (.iload_n 1, 1) := by decide +kernel
theorem dX7_add_22 : decode cX7_add 22 = .ok (.iastore, 1) := by decide +kernel
theorem dX7_add_23 : decode cX7_add 23 = .ok (.aload_n 0, 1) := by decide +kernel
theorem dX7_add_24 : decode cX7_add 24 = .ok (.getfield 15, 3) := by decide +kernel
theorem dX7_add_27 : decode cX7_add 27 = .ok (.aload_n 0, 1) := by decide +kernel
theorem dX7_add_28 : decode cX7_add 28 = .ok (.getfield 24, 3) := by decide +kernel
theorem dX7_add_31 : decode cX7_add 31 = .ok (.iload_n 2, 1) := by decide +kernel
theorem dX7_add_32 : decode cX7_add 32 = .ok (.iastore, 1) := by decide +kernel
theorem dX7_add_33 : decode cX7_add 33 = .ok (.aload_n 0, 1) := by decide +kernel
theorem dX7_add_34 : decode cX7_add 34 = .ok (.getfield 18, 3) := by decide +kernel
theorem dX7_add_37 : decode cX7_add 37 = .ok (.aload_n 0, 1) := by decide +kernel
theorem dX7_add_38 : decode cX7_add 38 = .ok (.getfield 24, 3) := by decide +kernel
theorem dX7_add_41 : decode cX7_add 41 = .ok (.iload_n 3, 1) := by decide +kernel
theorem dX7_add_42 : decode cX7_add 42 = .ok (.iastore, 1) := by decide +kernel
theorem dX7_add_43 : decode cX7_add 43 = .ok (.aload_n 0, 1) := by decide +kernel
theorem dX7_add_44 : decode cX7_add 44 = .ok (.getfield 21, 3) := by decide +kernel
theorem dX7_add_47 : decode cX7_add 47 = .ok (.aload_n 0, 1) := by decide +kernel
theorem dX7_add_48 : decode cX7_add 48 = .ok (.getfield 24, 3) := by decide +kernel
theorem dX7_add_51 : decode cX7_add 51 = .ok (.iload 4, 2) := by decide +kernel
theorem dX7_add_53 : decode cX7_add 53 = .ok (.iastore, 1) := by decide +kernel
theorem dX7_add_54 : decode cX7_add 54 = .ok (.aload_n 0, 1) := by decide +kernel
theorem dX7_add_55 : decode cX7_add 55 = .ok (.dup, 1) := by decide +kernel
theorem dX7_add_56 : decode cX7_add 56 = .ok (.getfield 24, 3) := by decide +kernel
theorem dX7_add_59 : decode cX7_add 59 = .ok (.iconst 1, 1) := by decide +kernel
theorem dX7_add_60 : decode cX7_add 60 = .ok (.iadd, 1) := by decide +kernel
theorem dX7_add_61 : decode cX7_add 61 = .ok (.putfield 24, 3) := by decide +kernel
theorem dX7_add_64 : decode cX7_add 64 = .ok (.aload_n 0, 1) := by decide +kernel
theorem dX7_add_65 : decode cX7_add 65 = .ok (.getfield 24, 3) := by decide +kernel
theorem dX7_add_68 : decode cX7_add 68 = .ok (.ireturn, 1) := by decide +kernel
theorem dX7_countOtherwise_0 : decode cX7_countOtherwise 0 = .ok (.iconst 0, 1) := by decide +kernel
theorem dX7_countOtherwise_1 : decode cX7_countOtherwise 1 = .ok (.istore_n 3, 1) := by decide +kernel
theorem dX7_countOtherwise_2 : decode cX7_countOtherwise 2 = .ok (.iconst 0, 1) := by decide +kernel
theorem dX7_countOtherwise_3 : decode cX7_countOtherwise 3 = .ok (.istore 4, 2) := by decide +kernel
theorem dX7_countOtherwise_5 : decode cX7_countOtherwise 5 = .ok (.iload 4, 2) := by decide +kernel
theorem dX7_countOtherwise_7 : decode cX7_countOtherwise 7 = .ok (.aload_n 0, 1) := by decide +kernel
theorem dX7_countOtherwise_8 : decode cX7_countOtherwise 8 = .ok (.getfield 24, 3) := by decide +kernel
theorem dX7_countOtherwise_11 : decode cX7_countOtherwise 11 = .ok (.if_icmp .ge 59, 3) := by decide +kernel
theorem dX7_countOtherwise_14 : decode cX7_countOtherwise 14 = .ok (.iload 4, 2) := by decide +kernel
theorem dX7_countOtherwise_16 : decode cX7_countOtherwise 16 = .ok (.bipush 8, 2) := by decide +kernel
theorem dX7_countOtherwise_18 : decode cX7_countOtherwise 18 = .ok (.if_icmp .ge 52, 3) := by decide +kernel
theorem dX7_countOtherwise_21 : decode cX7_countOtherwise 21 = .ok (.aload_n 0, 1) := by decide +kernel
theorem dX7_countOtherwise_22 : decode cX7_countOtherwise 22 = .ok (.getfield 9, 3) := by decide +kernel
theorem dX7_countOtherwise_25 : decode cX7_countOtherwise 25 = .ok (.iload 4, 2) := by decide +kernel
theorem dX7_countOtherwise_27 : decode cX7_countOtherwise 27 = .ok (.iaload, 1) := by decide +kernel
theorem dX7_countOtherwise_28 : decode cX7_countOtherwise 28 = .ok (.iload_n 2, 1) := by decide +kernel
theorem dX7_countOtherwise_29 : decode cX7_countOtherwise 29 = .ok (.if_icmp .ne 35, 3) := by decide +kernel
theorem dX7_countOtherwise_32 : decode cX7_countOtherwise 32 = .ok (.aload_n 0, 1) := by decide +kernel
theorem dX7_countOtherwise_33 : decode cX7_countOtherwise 33 = .ok (.getfield 21, 3) := by decide +kernel
theorem dX7_countOtherwise_36 : decode cX7_countOtherwise 36 = .ok (.iload 4, 2) := by decide +kernel
theorem dX7_countOtherwise_38 : decode cX7_countOtherwise 38 = .ok (.iaload, 1) := by decide +kernel
theorem dX7_countOtherwise_39 : decode cX7_countOtherwise 39 = .ok (.aload_n 1, 1) := by decide +kernel
theorem dX7_countOtherwise_40 : decode cX7_countOtherwise 40 = .ok (.iload_n 2, 1) := by decide +kernel
theorem dX7_countOtherwise_41 : decode cX7_countOtherwise 41 = .ok (.aload_n 0, 1) := by decide +kernel
theorem dX7_countOtherwise_42 : decode cX7_countOtherwise 42 = .ok (.getfield 15, 3) := by decide +kernel
theorem dX7_countOtherwise_45 : decode cX7_countOtherwise 45 = .ok (.iload 4, 2) := by decide +kernel
theorem dX7_countOtherwise_47 : decode cX7_countOtherwise 47 = .ok (.iaload, 1) := by decide +kernel
theorem dX7_countOtherwise_48 : decode cX7_countOtherwise 48 = .ok (.aload_n 0, 1) := by decide +kernel
theorem dX7_countOtherwise_49 : decode cX7_countOtherwise 49 = .ok (.getfield 18, 3) := by decide +kernel
theorem dX7_countOtherwise_52 : decode cX7_countOtherwise 52 = .ok (.iload 4, 2) := by decide +kernel
theorem dX7_countOtherwise_54 : decode cX7_countOtherwise 54 = .ok (.iaload, 1) := by decide +kernel
theorem dX7_countOtherwise_55 : decode cX7_countOtherwise 55 = .ok (.invokestatic 32, 3) := by decide +kernel
theorem dX7_countOtherwise_58 : decode cX7_countOtherwise 58 = .ok (.if_icmp .eq 6, 3) := by decide +kernel
theorem dX7_countOtherwise_61 : decode cX7_countOtherwise 61 = .ok (.iinc 3 1, 3) := by decide +kernel
theorem dX7_countOtherwise_64 : decode cX7_countOtherwise 64 = .ok (.iinc 4 1, 3) := by decide +kernel
theorem dX7_countOtherwise_67 : decode cX7_countOtherwise 67 = .ok (.goto (-62), 3) := by decide +kernel
theorem dX7_countOtherwise_70 : decode cX7_countOtherwise 70 = .ok (.iload_n 3, 1) := by decide +kernel
theorem dX7_countOtherwise_71 : decode cX7_countOtherwise 71 = .ok (.ireturn, 1) := by decide +kernel
theorem dX7_pickNow_0 : decode cX7_pickNow 0 = .ok (.aload_n 0, 1) := by decide +kernel
theorem dX7_pickNow_1 : decode cX7_pickNow 1 = .ok (.iload_n 1, 1) := by decide +kernel
theorem dX7_pickNow_2 : decode cX7_pickNow 2 = .ok (.iload_n 2, 1) := by decide +kernel
theorem dX7_pickNow_3 : decode cX7_pickNow 3 = .ok (.invokevirtual 36, 3) := by decide +kernel
theorem dX7_pickNow_6 : decode cX7_pickNow 6 = .ok (.ifCond .eq 17, 3) := by decide +kernel
theorem dX7_pickNow_9 : decode cX7_pickNow 9 = .ok (.aload_n 0, 1) := by decide +kernel
theorem dX7_pickNow_10 : decode cX7_pickNow 10 = .ok (.aload_n 0, 1) := by decide +kernel
theorem dX7_pickNow_11 : decode cX7_pickNow 11 = .ok (.iload_n 1, 1) := by decide +kernel
theorem dX7_pickNow_12 : decode cX7_pickNow 12 = .ok (.iload_n 2, 1) := by decide +kernel
theorem dX7_pickNow_13 : decode cX7_pickNow 13 = .ok (.invokevirtual 42, 3) := by decide +kernel
theorem dX7_pickNow_16 : decode cX7_pickNow 16 = .ok (.iload_n 3, 1) := by decide +kernel
theorem dX7_pickNow_17 : decode cX7_pickNow 17 = .ok (.invokestatic 46, 3) := by decide +kernel
theorem dX7_pickNow_20 : decode cX7_pickNow 20 = .ok (.goto 4, 3) := by decide +kernel
theorem dX7_pickNow_23 : decode cX7_pickNow 23 = .ok (.iconst (-1), 1) := by decide +kernel
theorem dX7_pickNow_24 : decode cX7_pickNow 24 = .ok (.ireturn, 1) := by decide +kernel
theorem dX8_init_0 : decode cX8_init 0 = .ok (.aload_n 0, 1) := by decide +kernel
theorem dX8_init_1 : decode cX8_init 1 = .ok (.invokespecial 3, 3) := by decide +kernel
theorem dX8_init_4 : decode cX8_init 4 = .ok (.aload_n 0, 1) := by decide +kernel
theorem dX8_init_5 : decode cX8_init 5 = .ok (.sipush 240, 3) := by decide +kernel
theorem dX8_init_8 : decode cX8_init 8 = .ok (.newarray .int, 2) := by decide +kernel
theorem dX8_init_10 : decode cX8_init 10 = .ok (.putfield 9, 3) := by decide +kernel
theorem dX8_init_13 : decode cX8_init 13 = .ok (.aload_n 0, 1) := by decide +kernel
theorem dX8_init_14 : decode cX8_init 14 = .ok (.iconst (-1), 1) := by decide +kernel
theorem dX8_init_15 : decode cX8_init 15 = .ok (.putfield 15, 3) := by decide +kernel
theorem dX8_init_18 : decode cX8_init 18 = .ok (.return_, 1) := by decide +kernel
theorem dX8_hasRoom_0 : decode cX8_hasRoom 0 = .ok (.aload_n 0, 1) := by decide +kernel
theorem dX8_hasRoom_1 : decode cX8_hasRoom 1 = .ok (.getfield 19, 3) := by decide +kernel
theorem dX8_hasRoom_4 : decode cX8_hasRoom 4 = .ok (.sipush 240, 3) := by decide +kernel
theorem dX8_hasRoom_7 : decode cX8_hasRoom 7 = .ok (.if_icmp .ge 7, 3) := by decide +kernel
theorem dX8_hasRoom_10 : decode cX8_hasRoom 10 = .ok (.iconst 1, 1) := by decide +kernel
theorem dX8_hasRoom_11 : decode cX8_hasRoom 11 = .ok (.goto 4, 3) := by decide +kernel
theorem dX8_hasRoom_14 : decode cX8_hasRoom 14 = .ok (.iconst 0, 1) := by decide +kernel
theorem dX8_hasRoom_15 : decode cX8_hasRoom 15 = .ok (.ireturn, 1) := by decide +kernel
theorem dX8_append_0 : decode cX8_append 0 = .ok (.aload_n 0, 1) := by decide +kernel
theorem dX8_append_1 : decode cX8_append 1 = .ok (.getfield 19, 3) := by decide +kernel
theorem dX8_append_4 : decode cX8_append 4 = .ok (.iconst 0, 1) := by decide +kernel
theorem dX8_append_5 : decode cX8_append 5 = .ok (.sipush 239, 3) := by decide +kernel
theorem dX8_append_8 : decode cX8_append 8 = .ok (.invokestatic 22, 3) := by decide +kernel
theorem dX8_append_11 : decode cX8_append 11 = .ok (.ifCond .eq 23, 3) := by decide +kernel
theorem dX8_append_14 : decode cX8_append 14 = .ok (.aload_n 0, 1) := by decide +kernel
theorem dX8_append_15 : decode cX8_append 15 = .ok (.getfield 9, 3) := by decide +kernel
theorem dX8_append_18 : decode cX8_append 18 = .ok (.aload_n 0, 1) := by decide +kernel
theorem dX8_append_19 : decode cX8_append 19 = .ok (.getfield 19, 3) := by decide +kernel
theorem dX8_append_22 : decode cX8_append 22 = .ok (.iload_n 1, 1) := by decide +kernel
theorem dX8_append_23 : decode cX8_append 23 = .ok (.iastore, 1) := by decide +kernel
theorem dX8_append_24 : decode cX8_append 24 = .ok (.aload_n 0, 1) := by decide +kernel
theorem dX8_append_25 : decode cX8_append 25 = .ok (.dup, 1) := by decide +kernel
theorem dX8_append_26 : decode cX8_append 26 = .ok (.getfield 19, 3) := by decide +kernel
theorem dX8_append_29 : decode cX8_append 29 = .ok (.iconst 1, 1) := by decide +kernel
theorem dX8_append_30 : decode cX8_append 30 = .ok (.iadd, 1) := by decide +kernel
theorem dX8_append_31 : decode cX8_append 31 = .ok (.putfield 19, 3) := by decide +kernel
theorem dX8_append_34 : decode cX8_append 34 = .ok (.aload_n 0, 1) := by decide +kernel
theorem dX8_append_35 : decode cX8_append 35 = .ok (.getfield 19, 3) := by decide +kernel
theorem dX8_append_38 : decode cX8_append 38 = .ok (.ireturn, 1) := by decide +kernel
theorem dX8_empty_0 : decode cX8_empty 0 = .ok (.aload_n 0, 1) := by decide +kernel
theorem dX8_empty_1 : decode cX8_empty 1 = .ok (.iconst 0, 1) := by decide +kernel
theorem dX8_empty_2 : decode cX8_empty 2 = .ok (.putfield 19, 3) := by decide +kernel
theorem dX8_empty_5 : decode cX8_empty 5 = .ok (.return_, 1) := by decide +kernel
theorem dX8_tellInto_0 : decode cX8_tellInto 0 = .ok (.aload_n 1, 1) := by decide +kernel
theorem dX8_tellInto_1 : decode cX8_tellInto 1 = .ok (.invokevirtual 26, 3) := by decide +kernel
theorem dX8_tellInto_4 : decode cX8_tellInto 4 = .ok (.aload_n 0, 1) := by decide +kernel
theorem dX8_tellInto_5 : decode cX8_tellInto 5 = .ok (.iconst 0, 1) := by decide +kernel
theorem dX8_tellInto_6 : decode cX8_tellInto 6 = .ok (.putfield 31, 3) := by decide +kernel
theorem dX8_tellInto_9 : decode cX8_tellInto 9 = .ok (.aload_n 0, 1) := by decide +kernel
theorem dX8_tellInto_10 : decode cX8_tellInto 10 = .ok (.iconst 0, 1) := by decide +kernel
theorem dX8_tellInto_11 : decode cX8_tellInto 11 = .ok (.putfield 34, 3) := by decide +kernel
theorem dX8_tellInto_14 : decode cX8_tellInto 14 = .ok (.aload_n 0, 1) := by decide +kernel
theorem dX8_tellInto_15 : decode cX8_tellInto 15 = .ok (.iconst (-1), 1) := by decide +kernel
theorem dX8_tellInto_16 : decode cX8_tellInto 16 = .ok (.putfield 15, 3) := by decide +kernel
theorem dX8_tellInto_19 : decode cX8_tellInto 19 = .ok (.aload_n 0, 1) := by decide +kernel
theorem dX8_tellInto_20 : decode cX8_tellInto 20 = .ok (.invokevirtual 37, 3) := by decide +kernel
theorem dX8_tellInto_23 : decode cX8_tellInto 23 = .ok (.iconst 0, 1) := by decide +kernel
theorem dX8_tellInto_24 : decode cX8_tellInto 24 = .ok (.istore_n 2, 1) := by decide +kernel
theorem dX8_tellInto_25 : decode cX8_tellInto 25 = .ok (.iload_n 2, 1) := by decide +kernel
theorem dX8_tellInto_26 : decode cX8_tellInto 26 = .ok (.sipush 240, 3) := by decide +kernel
theorem dX8_tellInto_29 : decode cX8_tellInto 29 = .ok (.if_icmp .ge 36, 3) := by decide +kernel
theorem dX8_tellInto_32 : decode cX8_tellInto 32 = .ok (.aload_n 0, 1) := by decide +kernel
theorem dX8_tellInto_33 : decode cX8_tellInto 33 = .ok (.getfield 31, 3) := by decide +kernel
theorem dX8_tellInto_36 : decode cX8_tellInto 36 = .ok (.aload_n 0, 1) := by decide +kernel
theorem dX8_tellInto_37 : decode cX8_tellInto 37 = .ok (.getfield 19, 3) := by decide +kernel
theorem dX8_tellInto_40 : decode cX8_tellInto 40 = .ok (.if_icmp .ge 25, 3) := by decide +kernel
theorem dX8_tellInto_43 : decode cX8_tellInto 43 = .ok (.aload_n 0, 1) := by decide +kernel
theorem dX8_tellInto_44 : decode cX8_tellInto 44 = .ok (.getfield 34, 3) := by decide +kernel
theorem dX8_tellInto_47 : decode cX8_tellInto 47 = .ok (.ifCond .ne 18, 3) := by decide +kernel
theorem dX8_tellInto_50 : decode cX8_tellInto 50 = .ok (.aload_n 0, 1) := by decide +kernel
theorem dX8_tellInto_51 : decode cX8_tellInto 51 = .ok (.aload_n 1, 1) := by decide +kernel
theorem dX8_tellInto_52 : decode cX8_tellInto 52 = .ok (.invokevirtual 40, 3) := by decide +kernel
theorem dX8_tellInto_55 : decode cX8_tellInto 55 = .ok (.aload_n 0, 1) := by decide +kernel
theorem dX8_tellInto_56 : decode cX8_tellInto 56 = .ok (.invokevirtual 37, 3) := by decide +kernel
theorem dX8_tellInto_59 : decode cX8_tellInto 59 = .ok (.iinc 2 1, 3) := by decide +kernel
theorem dX8_tellInto_62 : decode cX8_tellInto 62 = .ok (.goto (-37), 3) := by decide +kernel
theorem dX8_tellInto_65 : decode cX8_tellInto 65 = .ok (.aload_n 0, 1) := by decide +kernel
theorem dX8_tellInto_66 : decode cX8_tellInto 66 = .ok (.getfield 34, 3) := by decide +kernel
theorem dX8_tellInto_69 : decode cX8_tellInto 69 = .ok (.ireturn, 1) := by decide +kernel
theorem dX8_readClause_0 : decode cX8_readClause 0 = .ok (.aload_n 0, 1) := by decide +kernel
theorem dX8_readClause_1 : decode cX8_readClause 1 = .ok (.invokevirtual 44, 3) := by decide +kernel
theorem dX8_readClause_4 : decode cX8_readClause 4 = .ok (.istore_n 2, 1) := by decide +kernel
theorem dX8_readClause_5 : decode cX8_readClause 5 = .ok (.iload_n 2, 1) := by decide +kernel
theorem dX8_readClause_6 : decode cX8_readClause 6 = .ok (.bipush 112, 2) := by decide +kernel
theorem dX8_readClause_8 : decode cX8_readClause 8 = .ok (.if_icmp .ne 11, 3) := by decide +kernel
theorem dX8_readClause_11 : decode cX8_readClause 11 = .ok (.aload_n 0, 1) := by decide +kernel
theorem dX8_readClause_12 : decode cX8_readClause 12 = .ok (.aload_n 1, 1) := by decide +kernel
theorem dX8_readClause_13 : decode cX8_readClause 13 = .ok (.invokevirtual 48, 3) := by decide +kernel
theorem dX8_readClause_16 : decode cX8_readClause 16 = .ok (.goto 26, 3) := by decide +kernel
theorem dX8_readClause_19 : decode cX8_readClause 19 = .ok (.iload_n 2, 1) := by decide +kernel
theorem dX8_readClause_20 : decode cX8_readClause 20 = .ok (.bipush 107, 2) := by decide +kernel
theorem dX8_readClause_22 : decode cX8_readClause 22 = .ok (.if_icmp .ne 11, 3) := by decide +kernel
theorem dX8_readClause_25 : decode cX8_readClause 25 = .ok (.aload_n 0, 1) := by decide +kernel
theorem dX8_readClause_26 : decode cX8_readClause 26 = .ok (.aload_n 1, 1) := by decide +kernel
theorem dX8_readClause_27 : decode cX8_readClause 27 = .ok (.invokevirtual 51, 3) := by decide +kernel
theorem dX8_readClause_30 : decode cX8_readClause 30 = .ok (.goto 12, 3) := by decide +kernel
theorem dX8_readClause_33 : decode cX8_readClause 33 = .ok (.aload_n 0, 1) := by decide +kernel
theorem dX8_readClause_34 : decode cX8_readClause 34 = .ok (.iconst 1, 1) := by decide +kernel
theorem dX8_readClause_35 : decode cX8_readClause 35 = .ok (.aload_n 0, 1) := by decide +kernel
theorem dX8_readClause_36 : decode cX8_readClause 36 = .ok (.getfield 31, 3) := by decide +kernel
theorem dX8_readClause_39 : decode cX8_readClause 39 = .ok (.invokevirtual 54, 3) := by decide +kernel
theorem dX8_readClause_42 : decode cX8_readClause 42 = .ok (.return_, 1) := by decide +kernel
theorem dX8_readPerson_0 : decode cX8_readPerson 0 = .ok (.aload_n 1, 1) := by decide +kernel
theorem dX8_readPerson_1 : decode cX8_readPerson 1 = .ok (.getfield 58, 3) := by decide +kernel
theorem dX8_readPerson_4 : decode cX8_readPerson 4 = .ok (.bipush 8, 2) := by decide +kernel
theorem dX8_readPerson_6 : decode cX8_readPerson 6 = .ok (.if_icmp .lt 12, 3) := by decide +kernel
theorem dX8_readPerson_9 : decode cX8_readPerson 9 = .ok (.aload_n 0, 1) := by decide +kernel
theorem dX8_readPerson_10 : decode cX8_readPerson 10 = .ok (.iconst 3, 1) := by decide +kernel
theorem dX8_readPerson_11 : decode cX8_readPerson 11 = .ok (.aload_n 0, 1) := by decide +kernel
theorem dX8_readPerson_12 : decode cX8_readPerson 12 = .ok (.getfield 31, 3) := by decide +kernel
theorem dX8_readPerson_15 : decode cX8_readPerson 15 = .ok (.invokevirtual 54, 3) := by decide +kernel
theorem dX8_readPerson_18 : decode cX8_readPerson 18 = .ok (.aload_n 0, 1) := by decide +kernel
theorem dX8_readPerson_19 : decode cX8_readPerson 19 = .ok (.dup, 1) := by decide +kernel
theorem dX8_readPerson_20 : decode cX8_readPerson 20 = .ok (.getfield 31, 3) := by decide +kernel
theorem dX8_readPerson_23 : decode cX8_readPerson 23 = .ok (.iconst 1, 1) := by decide +kernel
theorem dX8_readPerson_24 : decode cX8_readPerson 24 = .ok (.iadd, 1) := by decide +kernel
theorem dX8_readPerson_25 : decode cX8_readPerson 25 = .ok (.putfield 31, 3) := by decide +kernel
theorem dX8_readPerson_28 : decode cX8_readPerson 28 = .ok (.aload_n 0, 1) := by decide +kernel
theorem dX8_readPerson_29 : decode cX8_readPerson 29 = .ok (.sipush 255, 3) := by decide +kernel
theorem dX8_readPerson_32 : decode cX8_readPerson 32 = .ok (.invokevirtual 61, 3) := by decide +kernel
theorem dX8_readPerson_35 : decode cX8_readPerson 35 = .ok (.istore_n 2, 1) := by decide +kernel
theorem dX8_readPerson_36 : decode cX8_readPerson 36 = .ok (.aload_n 0, 1) := by decide +kernel
theorem dX8_readPerson_37 : decode cX8_readPerson 37 = .ok (.bipush 7, 2) := by decide +kernel
theorem dX8_readPerson_39 : decode cX8_readPerson 39 = .ok (.invokevirtual 61, 3) := by decide +kernel
theorem dX8_readPerson_42 : decode cX8_readPerson 42 = .ok (.istore_n 3, 1) := by decide +kernel
theorem dX8_readPerson_43 : decode cX8_readPerson 43 = .ok (.aload_n 0, 1) := by decide +kernel
theorem dX8_readPerson_44 : decode cX8_readPerson 44 = .ok (.invokevirtual 65, 3) := by decide +kernel
theorem dX8_readPerson_47 : decode cX8_readPerson 47 = .ok (.aload_n 0, 1) := by decide +kernel
theorem dX8_readPerson_48 : decode cX8_readPerson 48 = .ok (.getfield 34, 3) := by decide +kernel
theorem dX8_readPerson_51 : decode cX8_readPerson 51 = .ok (.ifCond .ne 9, 3) := by decide +kernel
theorem dX8_readPerson_54 : decode cX8_readPerson 54 = .ok (.aload_n 1, 1) := by decide +kernel
theorem dX8_readPerson_55 : decode cX8_readPerson 55 = .ok (.iload_n 2, 1) := by decide +kernel
theorem dX8_readPerson_56 : decode cX8_readPerson 56 = .ok (.iload_n 3, 1) := by decide +kernel
theorem dX8_readPerson_57 : decode cX8_readPerson 57 = .ok (.invokevirtual 68, 3) := by decide +kernel
theorem dX8_readPerson_60 : decode cX8_readPerson 60 = .ok (.return_, 1) := by decide +kernel
theorem dX8_readAcquaintance_0 : decode cX8_readAcquaintance 0 = .ok (.aload_n 0, 1) := by decide +kernel
theorem dX8_readAcquaintance_1 : decode cX8_readAcquaintance 1 = .ok (.dup, 1) := by decide +kernel
theorem dX8_readAcquaintance_2 : decode cX8_readAcquaintance 2 = .ok (.getfield 31, 3) := by decide +kernel
theorem dX8_readAcquaintance_5 : decode cX8_readAcquaintance 5 = .ok (.iconst 1, 1) := by decide +kernel
theorem dX8_readAcquaintance_6 : decode cX8_readAcquaintance 6 = .ok (.iadd, 1) := by decide +kernel
theorem dX8_readAcquaintance_7 : decode cX8_readAcquaintance 7 = .ok (.putfield 31, 3) := by decide +kernel
theorem dX8_readAcquaintance_10 : decode cX8_readAcquaintance 10 = .ok (.aload_n 0, 1) := by decide +kernel
theorem dX8_readAcquaintance_11 : decode cX8_readAcquaintance 11 = .ok (.aload_n 1, 1) := by decide +kernel
theorem dX8_readAcquaintance_12 : decode cX8_readAcquaintance 12 = .ok (.getfield 58, 3) := by decide +kernel
theorem dX8_readAcquaintance_15 : decode cX8_readAcquaintance 15 = .ok (.iconst 1, 1) := by decide +kernel
theorem dX8_readAcquaintance_16 : decode cX8_readAcquaintance 16 = .ok (.isub, 1) := by decide +kernel
theorem dX8_readAcquaintance_17 : decode cX8_readAcquaintance 17 = .ok (.invokevirtual 61, 3) := by decide +kernel
theorem dX8_readAcquaintance_20 : decode cX8_readAcquaintance 20 = .ok (.istore_n 2, 1) := by decide +kernel
theorem dX8_readAcquaintance_21 : decode cX8_readAcquaintance 21 = .ok (.aload_n 0, 1) := by decide +kernel
theorem dX8_readAcquaintance_22 : decode cX8_readAcquaintance 22 = .ok (.aload_n 1, 1) := by decide +kernel
theorem dX8_readAcquaintance_23 : decode cX8_readAcquaintance 23 = .ok (.getfield 58, 3) := by decide +kernel
theorem dX8_readAcquaintance_26 : decode cX8_readAcquaintance 26 = .ok (.iconst 1, 1) := by decide +kernel
theorem dX8_readAcquaintance_27 : decode cX8_readAcquaintance 27 = .ok (.isub, 1) := by decide +kernel
theorem dX8_readAcquaintance_28 : decode cX8_readAcquaintance 28 = .ok (.invokevirtual 61, 3) := by decide +kernel
theorem dX8_readAcquaintance_31 : decode cX8_readAcquaintance 31 = .ok (.istore_n 3, 1) := by decide +kernel
theorem dX8_readAcquaintance_32 : decode cX8_readAcquaintance 32 = .ok (.iload_n 3, 1) := by decide +kernel
theorem dX8_readAcquaintance_33 : decode cX8_readAcquaintance 33 = .ok (.iload_n 2, 1) := by decide +kernel
theorem dX8_readAcquaintance_34 : decode cX8_readAcquaintance 34 = .ok (.if_icmp .eq 12, 3) := by decide +kernel
theorem dX8_readAcquaintance_37 : decode cX8_readAcquaintance 37 = .ok (.aload_n 1, 1) := by decide +kernel
theorem dX8_readAcquaintance_38 : decode cX8_readAcquaintance 38 = .ok (.iload_n 2, 1) := by decide +kernel
theorem dX8_readAcquaintance_39 : decode cX8_readAcquaintance 39 = .ok (.iload_n 3, 1) := by decide +kernel
theorem dX8_readAcquaintance_40 : decode cX8_readAcquaintance 40 = .ok (.invokevirtual 71, 3) := by decide +kernel
theorem dX8_readAcquaintance_43 : decode cX8_readAcquaintance 43 = .ok (.ifCond .eq 12, 3) := by decide +kernel
theorem dX8_readAcquaintance_46 : decode cX8_readAcquaintance 46 = .ok (.aload_n 0, 1) := by decide +kernel
theorem dX8_readAcquaintance_47 : decode cX8_readAcquaintance 47 = .ok (.iconst 4, 1) := by decide +kernel
theorem dX8_readAcquaintance_48 : decode cX8_readAcquaintance 48 = .ok (.aload_n 0, 1) := by decide +kernel
theorem dX8_readAcquaintance_49 : decode cX8_readAcquaintance 49 = .ok (.getfield 75, 3) := by decide +kernel
theorem dX8_readAcquaintance_52 : decode cX8_readAcquaintance 52 = .ok (.invokevirtual 54, 3) := by decide +kernel
theorem dX8_readAcquaintance_55 : decode cX8_readAcquaintance 55 = .ok (.aload_n 0, 1) := by decide +kernel
theorem dX8_readAcquaintance_56 : decode cX8_readAcquaintance 56 = .ok (.invokevirtual 65, 3) := by decide +kernel
theorem dX8_readAcquaintance_59 : decode cX8_readAcquaintance 59 = .ok (.aload_n 0, 1) := by decide +kernel
theorem dX8_readAcquaintance_60 : decode cX8_readAcquaintance 60 = .ok (.getfield 34, 3) := by decide +kernel
theorem dX8_readAcquaintance_63 : decode cX8_readAcquaintance 63 = .ok (.ifCond .ne 9, 3) := by decide +kernel
theorem dX8_readAcquaintance_66 : decode cX8_readAcquaintance 66 = .ok (.aload_n 1, 1) := by decide +kernel
theorem dX8_readAcquaintance_67 : decode cX8_readAcquaintance 67 = .ok (.iload_n 2, 1) := by decide +kernel
theorem dX8_readAcquaintance_68 : decode cX8_readAcquaintance 68 = .ok (.iload_n 3, 1) := by decide +kernel
theorem dX8_readAcquaintance_69 : decode cX8_readAcquaintance 69 = .ok (.invokevirtual 78, 3) := by decide +kernel
theorem dX8_readAcquaintance_72 : decode cX8_readAcquaintance 72 = .ok (.return_, 1) := by decide +kernel
theorem dX8_readNumber_0 : decode cX8_readNumber 0 = .ok (.aload_n 0, 1) := by decide +kernel
theorem dX8_readNumber_1 : decode cX8_readNumber 1 = .ok (.invokevirtual 37, 3) := by decide +kernel
theorem dX8_readNumber_4 : decode cX8_readNumber 4 = .ok (.aload_n 0, 1) := by decide +kernel
theorem dX8_readNumber_5 : decode cX8_readNumber 5 = .ok (.aload_n 0, 1) := by decide +kernel
theorem dX8_readNumber_6 : decode cX8_readNumber 6 = .ok (.getfield 31, 3) := by decide +kernel
theorem dX8_readNumber_9 : decode cX8_readNumber 9 = .ok (.putfield 75, 3) := by decide +kernel
theorem dX8_readNumber_12 : decode cX8_readNumber 12 = .ok (.iconst 0, 1) := by decide +kernel
theorem dX8_readNumber_13 : decode cX8_readNumber 13 = .ok (.istore_n 2, 1) := by decide +kernel
theorem dX8_readNumber_14 : decode cX8_readNumber 14 = .ok (.iconst 0, 1) := by decide +kernel
theorem dX8_readNumber_15 : decode cX8_readNumber 15 = .ok (.istore_n 3, 1) := by decide +kernel
theorem dX8_readNumber_16 : decode cX8_readNumber 16 = .ok (.aload_n 0, 1) := by decide +kernel
theorem dX8_readNumber_17 : decode cX8_readNumber 17 = .ok (.getfield 31, 3) := by decide +kernel
theorem dX8_readNumber_20 : decode cX8_readNumber 20 = .ok (.aload_n 0, 1) := by decide +kernel
theorem dX8_readNumber_21 : decode cX8_readNumber 21 = .ok (.getfield 19, 3) := by decide +kernel
theorem dX8_readNumber_24 : decode cX8_readNumber 24 = .ok (.if_icmp .ge 47, 3) := by decide +kernel
theorem dX8_readNumber_27 : decode cX8_readNumber 27 = .ok (.aload_n 0, 1) := by decide +kernel
theorem dX8_readNumber_28 : decode cX8_readNumber 28 = .ok (.invokevirtual 44, 3) := by decide +kernel
theorem dX8_readNumber_31 : decode cX8_readNumber 31 = .ok (.invokestatic 81, 3) := by decide +kernel
theorem dX8_readNumber_34 : decode cX8_readNumber 34 = .ok (.ifCond .eq 37, 3) := by decide +kernel
theorem dX8_readNumber_37 : decode cX8_readNumber 37 = .ok (.iload_n 2, 1) := by decide +kernel
theorem dX8_readNumber_38 : decode cX8_readNumber 38 = .ok (.iconst 3, 1) := by decide +kernel
theorem dX8_readNumber_39 : decode cX8_readNumber 39 = .ok (.if_icmp .ge 16, 3) := by decide +kernel
theorem dX8_readNumber_42 : decode cX8_readNumber 42 = .ok (.iload_n 3, 1) := by decide +kernel
theorem dX8_readNumber_43 : decode cX8_readNumber 43 = .ok (.bipush 10, 2) := by decide +kernel
theorem dX8_readNumber_45 : decode cX8_readNumber 45 = .ok (.imul, 1) := by decide +kernel
theorem dX8_readNumber_46 : decode cX8_readNumber 46 = .ok (.aload_n 0, 1) := by decide +kernel
theorem dX8_readNumber_47 : decode cX8_readNumber 47 = .ok (.invokevirtual 44, 3) := by decide +kernel
theorem dX8_readNumber_50 : decode cX8_readNumber 50 = .ok (.iadd, 1) := by decide +kernel
theorem dX8_readNumber_51 : decode cX8_readNumber 51 = .ok (.bipush 48, 2) := by decide +kernel
theorem dX8_readNumber_53 : decode cX8_readNumber 53 = .ok (.isub, 1) := by decide +kernel
theorem dX8_readNumber_54 : decode cX8_readNumber 54 = .ok (.istore_n 3, 1) := by decide +kernel
theorem dX8_readNumber_55 : decode cX8_readNumber 55 = .ok (.iinc 2 1, 3) := by decide +kernel
theorem dX8_readNumber_58 : decode cX8_readNumber 58 = .ok (.aload_n 0, 1) := by decide +kernel
theorem dX8_readNumber_59 : decode cX8_readNumber 59 = .ok (.dup, 1) := by decide +kernel
theorem dX8_readNumber_60 : decode cX8_readNumber 60 = .ok (.getfield 31, 3) := by decide +kernel
theorem dX8_readNumber_63 : decode cX8_readNumber 63 = .ok (.iconst 1, 1) := by decide +kernel
theorem dX8_readNumber_64 : decode cX8_readNumber 64 = .ok (.iadd, 1) := by decide +kernel
theorem dX8_readNumber_65 : decode cX8_readNumber 65 = .ok (.putfield 31, 3) := by decide +kernel
theorem dX8_readNumber_68 : decode cX8_readNumber 68 = .ok (.goto (-52), 3) := by decide +kernel
theorem dX8_readNumber_71 : decode cX8_readNumber 71 = .ok (.iload_n 2, 1) := by decide +kernel
theorem dX8_readNumber_72 : decode cX8_readNumber 72 = .ok (.ifCond .ne 15, 3) := by decide +kernel
theorem dX8_readNumber_75 : decode cX8_readNumber 75 = .ok (.aload_n 0, 1) := by decide +kernel
theorem dX8_readNumber_76 : decode cX8_readNumber 76 = .ok (.iconst 1, 1) := by decide +kernel
theorem dX8_readNumber_77 : decode cX8_readNumber 77 = .ok (.aload_n 0, 1) := by decide +kernel
theorem dX8_readNumber_78 : decode cX8_readNumber 78 = .ok (.getfield 75, 3) := by decide +kernel
theorem dX8_readNumber_81 : decode cX8_readNumber 81 = .ok (.invokevirtual 54, 3) := by decide +kernel
theorem dX8_readNumber_84 : decode cX8_readNumber 84 = .ok (.goto 22, 3) := by decide +kernel
theorem dX8_readNumber_87 : decode cX8_readNumber 87 = .ok (.iload_n 2, 1) := by decide +kernel
theorem dX8_readNumber_88 : decode cX8_readNumber 88 = .ok (.iconst 3, 1) := by decide +kernel
theorem dX8_readNumber_89 : decode cX8_readNumber 89 = .ok (.if_icmp .gt 8, 3) := by decide +kernel
theorem dX8_readNumber_92 : decode cX8_readNumber 92 = .ok (.iload_n 3, 1) := by decide +kernel
theorem dX8_readNumber_93 : decode cX8_readNumber 93 = .ok (.iload_n 1, 1) := by decide +kernel
theorem dX8_readNumber_94 : decode cX8_readNumber 94 = .ok (.if_icmp .le 12, 3) := by decide +kernel
theorem dX8_readNumber_97 : decode cX8_readNumber 97 = .ok (.aload_n 0, 1) := by decide +kernel
theorem dX8_readNumber_98 : decode cX8_readNumber 98 = .ok (.iconst 2, 1) := by decide +kernel
theorem dX8_readNumber_99 : decode cX8_readNumber 99 = .ok (.aload_n 0, 1) := by decide +kernel
theorem dX8_readNumber_100 : decode cX8_readNumber 100 = .ok (.getfield 75, 3) := by decide +kernel
theorem dX8_readNumber_103 : decode cX8_readNumber 103 = .ok (.invokevirtual 54, 3) := by decide +kernel
theorem dX8_readNumber_106 : decode cX8_readNumber 106 = .ok (.iload_n 3, 1) := by decide +kernel
theorem dX8_readNumber_107 : decode cX8_readNumber 107 = .ok (.ireturn, 1) := by decide +kernel
theorem dX8_readEndOfClause_0 : decode cX8_readEndOfClause 0 = .ok (.aload_n 0, 1) := by decide +kernel
theorem dX8_readEndOfClause_1 : decode cX8_readEndOfClause 1 = .ok (.invokevirtual 37, 3) := by decide +kernel
theorem dX8_readEndOfClause_4 : decode cX8_readEndOfClause 4 = .ok (.aload_n 0, 1) := by decide +kernel
theorem dX8_readEndOfClause_5 : decode cX8_readEndOfClause 5 = .ok (.invokevirtual 44, 3) := by decide +kernel
theorem dX8_readEndOfClause_8 : decode cX8_readEndOfClause 8 = .ok (.bipush 59, 2) := by decide +kernel
theorem dX8_readEndOfClause_10 : decode cX8_readEndOfClause 10 = .ok (.if_icmp .eq 12, 3) := by decide +kernel
theorem dX8_readEndOfClause_13 : decode cX8_readEndOfClause 13 = .ok (.aload_n 0, 1) := by decide +kernel
theorem dX8_readEndOfClause_14 : decode cX8_readEndOfClause 14 = .ok (.iconst 1, 1) := by decide +kernel
theorem dX8_readEndOfClause_15 : decode cX8_readEndOfClause 15 = .ok (.aload_n 0, 1) := by decide +kernel
theorem dX8_readEndOfClause_16 : decode cX8_readEndOfClause 16 = .ok (.getfield 31, 3) := by decide +kernel
theorem dX8_readEndOfClause_19 : decode cX8_readEndOfClause 19 = .ok (.invokevirtual 54, 3) := by decide +kernel
theorem dX8_readEndOfClause_22 : decode cX8_readEndOfClause 22 = .ok (.aload_n 0, 1) := by decide +kernel
theorem dX8_readEndOfClause_23 : decode cX8_readEndOfClause 23 = .ok (.dup, 1) := by decide +kernel
theorem dX8_readEndOfClause_24 : decode cX8_readEndOfClause 24 = .ok (.getfield 31, 3) := by decide +kernel
theorem dX8_readEndOfClause_27 : decode cX8_readEndOfClause 27 = .ok (.iconst 1, 1) := by decide +kernel
theorem dX8_readEndOfClause_28 : decode cX8_readEndOfClause 28 = .ok (.iadd, 1) := by decide +kernel
theorem dX8_readEndOfClause_29 : decode cX8_readEndOfClause 29 = .ok (.putfield 31, 3) := by decide +kernel
theorem dX8_readEndOfClause_32 : decode cX8_readEndOfClause 32 = .ok (.return_, 1) := by decide +kernel
theorem dX8_skipBlanks_0 : decode cX8_skipBlanks 0 = .ok (.aload_n 0, 1) := by decide +kernel
theorem dX8_skipBlanks_1 : decode cX8_skipBlanks 1 = .ok (.getfield 31, 3) := by decide +kernel
theorem dX8_skipBlanks_4 : decode cX8_skipBlanks 4 = .ok (.aload_n 0, 1) := by decide +kernel
theorem dX8_skipBlanks_5 : decode cX8_skipBlanks 5 = .ok (.getfield 19, 3) := by decide +kernel
theorem dX8_skipBlanks_8 : decode cX8_skipBlanks 8 = .ok (.if_icmp .ge 25, 3) := by decide +kernel
theorem dX8_skipBlanks_11 : decode cX8_skipBlanks 11 = .ok (.aload_n 0, 1) := by decide +kernel
theorem dX8_skipBlanks_12 : decode cX8_skipBlanks 12 = .ok (.invokevirtual 44, 3) := by decide +kernel
theorem dX8_skipBlanks_15 : decode cX8_skipBlanks 15 = .ok (.bipush 32, 2) := by decide +kernel
theorem dX8_skipBlanks_17 : decode cX8_skipBlanks 17 = .ok (.if_icmp .ne 16, 3) := by decide +kernel
theorem dX8_skipBlanks_20 : decode cX8_skipBlanks 20 = .ok (.aload_n 0, 1) := by decide +kernel
theorem dX8_skipBlanks_21 : decode cX8_skipBlanks 21 = .ok (.dup, 1) := by decide +kernel
theorem dX8_skipBlanks_22 : decode cX8_skipBlanks 22 = .ok (.getfield 31, 3) := by decide +kernel
theorem dX8_skipBlanks_25 : decode cX8_skipBlanks 25 = .ok (.iconst 1, 1) := by decide +kernel
theorem dX8_skipBlanks_26 : decode cX8_skipBlanks 26 = .ok (.iadd, 1) := by decide +kernel
theorem dX8_skipBlanks_27 : decode cX8_skipBlanks 27 = .ok (.putfield 31, 3) := by decide +kernel
theorem dX8_skipBlanks_30 : decode cX8_skipBlanks 30 = .ok (.goto (-30), 3) := by decide +kernel
theorem dX8_skipBlanks_33 : decode cX8_skipBlanks 33 = .ok (.return_, 1) := by decide +kernel
theorem dX8_letterHere_0 : decode cX8_letterHere 0 = .ok (.aload_n 0, 1) := by decide +kernel
theorem dX8_letterHere_1 : decode cX8_letterHere 1 = .ok (.getfield 31, 3) := by decide +kernel
theorem dX8_letterHere_4 : decode cX8_letterHere 4 = .ok (.ifCond .lt 36, 3) := by decide +kernel
theorem dX8_letterHere_7 : decode cX8_letterHere 7 = .ok (.aload_n 0, 1) := by decide +kernel
theorem dX8_letterHere_8 : decode cX8_letterHere 8 = .ok (.getfield 31, 3) := by decide +kernel
theorem dX8_letterHere_11 : decode cX8_letterHere 11 = .ok (.aload_n 0, 1) := by decide +kernel
theorem dX8_letterHere_12 : decode cX8_letterHere 12 = .ok (.getfield 19, 3) := by decide +kernel
theorem dX8_letterHere_15 : decode cX8_letterHere 15 = .ok (.if_icmp .ge 25, 3) := by decide +kernel
theorem dX8_letterHere_18 : decode cX8_letterHere 18 = .ok (.aload_n 0, 1) := by decide +kernel
theorem dX8_letterHere_19 : decode cX8_letterHere 19 = .ok (.getfield 31, 3) := by decide +kernel
theorem dX8_letterHere_22 : decode cX8_letterHere 22 = .ok (.sipush 240, 3) := by decide +kernel
theorem dX8_letterHere_25 : decode cX8_letterHere 25 = .ok (.if_icmp .ge 15, 3) := by decide +kernel
theorem dX8_letterHere_28 : decode cX8_letterHere 28 = .ok (.aload_n 0, 1) := by decide +kernel
theorem dX8_letterHere_29 : decode cX8_letterHere 29 = .ok (.getfield 9, 3) := by decide +kernel
theorem dX8_letterHere_32 : decode cX8_letterHere 32 = .ok (.aload_n 0, 1) := by decide +kernel
theorem dX8_letterHere_33 : decode cX8_letterHere 33 = .ok (.getfield 31, 3) := by decide +kernel
theorem dX8_letterHere_36 : decode cX8_letterHere 36 = .ok (.iaload, 1) := by decide +kernel
theorem dX8_letterHere_37 : decode cX8_letterHere 37 = .ok (.goto 4, 3) := by decide +kernel
theorem dX8_letterHere_40 : decode cX8_letterHere 40 = .ok (.iconst (-1), 1) := by decide +kernel
theorem dX8_letterHere_41 : decode cX8_letterHere 41 = .ok (.ireturn, 1) := by decide +kernel
theorem dX8_isFigure_0 : decode cX8_isFigure 0 = .ok (.iload_n 0, 1) := by decide +kernel
theorem dX8_isFigure_1 : decode cX8_isFigure 1 = .ok (.bipush 48, 2) := by decide +kernel
theorem dX8_isFigure_3 : decode cX8_isFigure 3 = .ok (.bipush 57, 2) := by decide +kernel
theorem dX8_isFigure_5 : decode cX8_isFigure 5 = .ok (.invokestatic 22, 3) := by decide +kernel
theorem dX8_isFigure_8 : decode cX8_isFigure 8 = .ok (.ireturn, 1) := by decide +kernel
theorem dX8_blame_0 : decode cX8_blame 0 = .ok (.aload_n 0, 1) := by decide +kernel
theorem dX8_blame_1 : decode cX8_blame 1 = .ok (.getfield 34, 3) := by decide +kernel
theorem dX8_blame_4 : decode cX8_blame 4 = .ok (.ifCond .ne 13, 3) := by decide +kernel
theorem dX8_blame_7 : decode cX8_blame 7 = .ok (.aload_n 0, 1) := by decide +kernel
theorem dX8_blame_8 : decode cX8_blame 8 = .ok (.iload_n 1, 1) := by decide +kernel
theorem dX8_blame_9 : decode cX8_blame 9 = .ok (.putfield 34, 3) := by decide +kernel
theorem dX8_blame_12 : decode cX8_blame 12 = .ok (.aload_n 0, 1) := by decide +kernel
theorem dX8_blame_13 : decode cX8_blame 13 = .ok (.iload_n 2, 1) := by decide +kernel
theorem dX8_blame_14 : decode cX8_blame 14 = .ok (.putfield 15, 3) := by decide +kernel
theorem dX8_blame_17 : decode cX8_blame 17 = .ok (.return_, 1) := by decide +kernel
theorem dX9_init_0 : decode cX9_init 0 = .ok (.aload_n 0, 1) := by decide +kernel
theorem dX9_init_1 : decode cX9_init 1 = .ok (.invokespecial 1, 3) := by decide +kernel
theorem dX9_init_4 : decode cX9_init 4 = .ok (.aload_n 0, 1) := by decide +kernel
theorem dX9_init_5 : decode cX9_init 5 = .ok (.new 7, 3) := by decide +kernel
theorem dX9_init_8 : decode cX9_init 8 = .ok (.dup, 1) := by decide +kernel
theorem dX9_init_9 : decode cX9_init 9 = .ok (.invokespecial 9, 3) := by decide +kernel
theorem dX9_init_12 : decode cX9_init 12 = .ok (.putfield 10, 3) := by decide +kernel
theorem dX9_init_15 : decode cX9_init 15 = .ok (.aload_n 0, 1) := by decide +kernel
theorem dX9_init_16 : decode cX9_init 16 = .ok (.new 16, 3) := by decide +kernel
theorem dX9_init_19 : decode cX9_init 19 = .ok (.dup, 1) := by decide +kernel
theorem dX9_init_20 : decode cX9_init 20 = .ok (.invokespecial 18, 3) := by decide +kernel
theorem dX9_init_23 : decode cX9_init 23 = .ok (.putfield 19, 3) := by decide +kernel
theorem dX9_init_26 : decode cX9_init 26 = .ok (.aload_n 0, 1) := by decide +kernel
theorem dX9_init_27 : decode cX9_init 27 = .ok (.new 16, 3) := by decide +kernel
theorem dX9_init_30 : decode cX9_init 30 = .ok (.dup, 1) := by decide +kernel
theorem dX9_init_31 : decode cX9_init 31 = .ok (.invokespecial 18, 3) := by decide +kernel
theorem dX9_init_34 : decode cX9_init 34 = .ok (.putfield 23, 3) := by decide +kernel
theorem dX9_init_37 : decode cX9_init 37 = .ok (.aload_n 0, 1) := by decide +kernel
theorem dX9_init_38 : decode cX9_init 38 = .ok (.new 26, 3) := by decide +kernel
theorem dX9_init_41 : decode cX9_init 41 = .ok (.dup, 1) := by decide +kernel
theorem dX9_init_42 : decode cX9_init 42 = .ok (.invokespecial 28, 3) := by decide +kernel
theorem dX9_init_45 : decode cX9_init 45 = .ok (.putfield 29, 3) := by decide +kernel
theorem dX9_init_48 : decode cX9_init 48 = .ok (.aload_n 0, 1) := by decide +kernel
theorem dX9_init_49 : decode cX9_init 49 = .ok (.new 33, 3) := by decide +kernel
theorem dX9_init_52 : decode cX9_init 52 = .ok (.dup, 1) := by decide +kernel
theorem dX9_init_53 : decode cX9_init 53 = .ok (.invokespecial 35, 3) := by decide +kernel
theorem dX9_init_56 : decode cX9_init 56 = .ok (.putfield 36, 3) := by decide +kernel
theorem dX9_init_59 : decode cX9_init 59 = .ok (.aload_n 0, 1) := by decide +kernel
theorem dX9_init_60 : decode cX9_init 60 = .ok (.new 40, 3) := by decide +kernel
theorem dX9_init_63 : decode cX9_init 63 = .ok (.dup, 1) := by decide +kernel
theorem dX9_init_64 : decode cX9_init 64 = .ok (.invokespecial 42, 3) := by decide +kernel
theorem dX9_init_67 : decode cX9_init 67 = .ok (.putfield 43, 3) := by decide +kernel
theorem dX9_init_70 : decode cX9_init 70 = .ok (.aload_n 0, 1) := by decide +kernel
theorem dX9_init_71 : decode cX9_init 71 = .ok (.new 47, 3) := by decide +kernel
theorem dX9_init_74 : decode cX9_init 74 = .ok (.dup, 1) := by decide +kernel
theorem dX9_init_75 : decode cX9_init 75 = .ok (.invokespecial 49, 3) := by decide +kernel
theorem dX9_init_78 : decode cX9_init 78 = .ok (.putfield 50, 3) := by decide +kernel
theorem dX9_init_81 : decode cX9_init 81 = .ok (.aload_n 0, 1) := by decide +kernel
theorem dX9_init_82 : decode cX9_init 82 = .ok (.new 54, 3) := by decide +kernel
theorem dX9_init_85 : decode cX9_init 85 = .ok (.dup, 1) := by decide +kernel
theorem dX9_init_86 : decode cX9_init 86 = .ok (.invokespecial 56, 3) := by decide +kernel
theorem dX9_init_89 : decode cX9_init 89 = .ok (.putfield 57, 3) := by decide +kernel
theorem dX9_init_92 : decode cX9_init 92 = .ok (.aload_n 0, 1) := by decide +kernel
theorem dX9_init_93 : decode cX9_init 93 = .ok (.new 54, 3) := by decide +kernel
theorem dX9_init_96 : decode cX9_init 96 = .ok (.dup, 1) := by decide +kernel
theorem dX9_init_97 : decode cX9_init 97 = .ok (.invokespecial 56, 3) := by decide +kernel
theorem dX9_init_100 : decode cX9_init 100 = .ok (.putfield 61, 3) := by decide +kernel
theorem dX9_init_103 : decode cX9_init 103 = .ok (.return_, 1) := by decide +kernel
theorem dX9_feed_0 : decode cX9_feed 0 = .ok (.iconst 1, 1) := by decide +kernel
theorem dX9_feed_1 : decode cX9_feed 1 = .ok (.iload_n 1, 1) := by decide +kernel
theorem dX9_feed_2 : decode cX9_feed 2 = .ok (.iconst 0, 1) := by decide +kernel
theorem dX9_feed_3 : decode cX9_feed 3 = .ok (.sipush 255, 3) := by decide +kernel
theorem dX9_feed_6 : decode cX9_feed 6 = .ok (.invokestatic 64, 3) := by decide +kernel
theorem dX9_feed_9 : decode cX9_feed 9 = .ok (.iconst 1, 1) := by decide +kernel
theorem dX9_feed_10 : decode cX9_feed 10 = .ok (.aload_n 0, 1) := by decide +kernel
theorem dX9_feed_11 : decode cX9_feed 11 = .ok (.getfield 10, 3) := by decide +kernel
theorem dX9_feed_14 : decode cX9_feed 14 = .ok (.invokevirtual 68, 3) := by decide +kernel
theorem dX9_feed_17 : decode cX9_feed 17 = .ok (.invokestatic 72, 3) := by decide +kernel
theorem dX9_feed_20 : decode cX9_feed 20 = .ok (.istore_n 2, 1) := by decide +kernel
theorem dX9_feed_21 : decode cX9_feed 21 = .ok (.iload_n 2, 1) := by decide +kernel
theorem dX9_feed_22 : decode cX9_feed 22 = .ok (.ifCond .eq 7, 3) := by decide +kernel
theorem dX9_feed_25 : decode cX9_feed 25 = .ok (.iload_n 2, 1) := by decide +kernel
theorem dX9_feed_26 : decode cX9_feed 26 = .ok (.goto 11, 3) := by decide +kernel
theorem dX9_feed_29 : decode cX9_feed 29 = .ok (.aload_n 0, 1) := by decide +kernel
theorem dX9_feed_30 : decode cX9_feed 30 = .ok (.getfield 10, 3) := by decide +kernel
theorem dX9_feed_33 : decode cX9_feed 33 = .ok (.iload_n 1, 1) := by decide +kernel
theorem dX9_feed_34 : decode cX9_feed 34 = .ok (.invokevirtual 76, 3) := by decide +kernel
theorem dX9_feed_37 : decode cX9_feed 37 = .ok (.ireturn, 1) := by decide +kernel
theorem dX9_place_0 : decode cX9_place 0 = .ok (.aload_n 0, 1) := by decide +kernel
theorem dX9_place_1 : decode cX9_place 1 = .ok (.getfield 10, 3) := by decide +kernel
theorem dX9_place_4 : decode cX9_place 4 = .ok (.aload_n 0, 1) := by decide +kernel
theorem dX9_place_5 : decode cX9_place 5 = .ok (.getfield 23, 3) := by decide +kernel
theorem dX9_place_8 : decode cX9_place 8 = .ok (.invokevirtual 80, 3) := by decide +kernel
theorem dX9_place_11 : decode cX9_place 11 = .ok (.istore_n 1, 1) := by decide +kernel
theorem dX9_place_12 : decode cX9_place 12 = .ok (.aload_n 0, 1) := by decide +kernel
theorem dX9_place_13 : decode cX9_place 13 = .ok (.getfield 10, 3) := by decide +kernel
theorem dX9_place_16 : decode cX9_place 16 = .ok (.invokevirtual 84, 3) := by decide +kernel
theorem dX9_place_19 : decode cX9_place 19 = .ok (.iload_n 1, 1) := by decide +kernel
theorem dX9_place_20 : decode cX9_place 20 = .ok (.ifCond .eq 8, 3) := by decide +kernel
theorem dX9_place_23 : decode cX9_place 23 = .ok (.bipush (-10), 2) := by decide +kernel
theorem dX9_place_25 : decode cX9_place 25 = .ok (.iload_n 1, 1) := by decide +kernel
theorem dX9_place_26 : decode cX9_place 26 = .ok (.isub, 1) := by decide +kernel
theorem dX9_place_27 : decode cX9_place 27 = .ok (.ireturn, 1) := by decide +kernel
theorem dX9_place_28 : decode cX9_place 28 = .ok (.aload_n 0, 1) := by decide +kernel
theorem dX9_place_29 : decode cX9_place 29 = .ok (.getfield 19, 3) := by decide +kernel
theorem dX9_place_32 : decode cX9_place 32 = .ok (.aload_n 0, 1) := by decide +kernel
theorem dX9_place_33 : decode cX9_place 33 = .ok (.getfield 23, 3) := by decide +kernel
theorem dX9_place_36 : decode cX9_place 36 = .ok (.invokevirtual 87, 3) := by decide +kernel
theorem dX9_place_39 : decode cX9_place 39 = .ok (.aload_n 0, 1) := by decide +kernel
theorem dX9_place_40 : decode cX9_place 40 = .ok (.getfield 29, 3) := by decide +kernel
theorem dX9_place_43 : decode cX9_place 43 = .ok (.invokevirtual 91, 3) := by decide +kernel
theorem dX9_place_46 : decode cX9_place 46 = .ok (.aload_n 0, 1) := by decide +kernel
theorem dX9_place_47 : decode cX9_place 47 = .ok (.getfield 36, 3) := by decide +kernel
theorem dX9_place_50 : decode cX9_place 50 = .ok (.invokevirtual 92, 3) := by decide +kernel
theorem dX9_place_53 : decode cX9_place 53 = .ok (.aload_n 0, 1) := by decide +kernel
theorem dX9_place_54 : decode cX9_place 54 = .ok (.getfield 43, 3) := by decide +kernel
theorem dX9_place_57 : decode cX9_place 57 = .ok (.invokevirtual 93, 3) := by decide +kernel
theorem dX9_place_60 : decode cX9_place 60 = .ok (.aload_n 0, 1) := by decide +kernel
theorem dX9_place_61 : decode cX9_place 61 = .ok (.getfield 57, 3) := by decide +kernel
theorem dX9_place_64 : decode cX9_place 64 = .ok (.invokevirtual 94, 3) := by decide +kernel
theorem dX9_place_67 : decode cX9_place 67 = .ok (.aload_n 0, 1) := by decide +kernel
theorem dX9_place_68 : decode cX9_place 68 = .ok (.getfield 61, 3) := by decide +kernel
theorem dX9_place_71 : decode cX9_place 71 = .ok (.invokevirtual 94, 3) := by decide +kernel
theorem dX9_place_74 : decode cX9_place 74 = .ok (.aload_n 0, 1) := by decide +kernel
theorem dX9_place_75 : decode cX9_place 75 = .ok (.getfield 19, 3) := by decide +kernel
theorem dX9_place_78 : decode cX9_place 78 = .ok (.getfield 97, 3) := by decide +kernel
theorem dX9_place_81 : decode cX9_place 81 = .ok (.ireturn, 1) := by decide +kernel
theorem dX9_fault_0 : decode cX9_fault 0 = .ok (.aload_n 0, 1) := by decide +kernel
theorem dX9_fault_1 : decode cX9_fault 1 = .ok (.getfield 10, 3) := by decide +kernel
theorem dX9_fault_4 : decode cX9_fault 4 = .ok (.getfield 101, 3) := by decide +kernel
theorem dX9_fault_7 : decode cX9_fault 7 = .ok (.ireturn, 1) := by decide +kernel
theorem dX9_told_0 : decode cX9_told 0 = .ok (.iload_n 1, 1) := by decide +kernel
theorem dX9_told_1 : decode cX9_told 1 = .ok (.tableswitch 123 0 8 #[51, 59, 67, 75, 83, 91, 99, 107, 115], 51) := by decide +kernel
theorem dX9_told_52 : decode cX9_told 52 = .ok (.aload_n 0, 1) := by decide +kernel
theorem dX9_told_53 : decode cX9_told 53 = .ok (.getfield 19, 3) := by decide +kernel
theorem dX9_told_56 : decode cX9_told 56 = .ok (.getfield 97, 3) := by decide +kernel
theorem dX9_told_59 : decode cX9_told 59 = .ok (.ireturn, 1) := by decide +kernel
theorem dX9_told_60 : decode cX9_told 60 = .ok (.aload_n 0, 1) := by decide +kernel
theorem dX9_told_61 : decode cX9_told 61 = .ok (.getfield 10, 3) := by decide +kernel
theorem dX9_told_64 : decode cX9_told 64 = .ok (.getfield 104, 3) := by decide +kernel
theorem dX9_told_67 : decode cX9_told 67 = .ok (.ireturn, 1) := by decide +kernel
theorem dX9_told_68 : decode cX9_told 68 = .ok (.aload_n 0, 1) := by decide +kernel
theorem dX9_told_69 : decode cX9_told 69 = .ok (.getfield 19, 3) := by decide +kernel
theorem dX9_told_72 : decode cX9_told 72 = .ok (.getfield 107, 3) := by decide +kernel
theorem dX9_told_75 : decode cX9_told 75 = .ok (.ireturn, 1) := by decide +kernel
theorem dX9_told_76 : decode cX9_told 76 = .ok (.aload_n 0, 1) := by decide +kernel
theorem dX9_told_77 : decode cX9_told 77 = .ok (.getfield 19, 3) := by decide +kernel
theorem dX9_told_80 : decode cX9_told 80 = .ok (.invokevirtual 110, 3) := by decide +kernel
theorem dX9_told_83 : decode cX9_told 83 = .ok (.ireturn, 1) := by decide +kernel
theorem dX9_told_84 : decode cX9_told 84 = .ok (.aload_n 0, 1) := by decide +kernel
theorem dX9_told_85 : decode cX9_told 85 = .ok (.getfield 19, 3) := by decide +kernel
theorem dX9_told_88 : decode cX9_told 88 = .ok (.invokevirtual 114, 3) := by decide +kernel
theorem dX9_told_91 : decode cX9_told 91 = .ok (.ireturn, 1) := by decide +kernel
theorem dX9_told_92 : decode cX9_told 92 = .ok (.aload_n 0, 1) := by decide +kernel
theorem dX9_told_93 : decode cX9_told 93 = .ok (.getfield 19, 3) := by decide +kernel
theorem dX9_told_96 : decode cX9_told 96 = .ok (.invokevirtual 117, 3) := by decide +kernel
theorem dX9_told_99 : decode cX9_told 99 = .ok (.ireturn, 1) := by decide +kernel
theorem dX9_told_100 : decode cX9_told 100 = .ok (.aload_n 0, 1) := by decide +kernel
theorem dX9_told_101 : decode cX9_told 101 = .ok (.getfield 36, 3) := by decide +kernel
theorem dX9_told_104 : decode cX9_told 104 = .ok (.getfield 120, 3) := by decide +kernel
theorem dX9_told_107 : decode cX9_told 107 = .ok (.ireturn, 1) := by decide +kernel
theorem dX9_told_108 : decode cX9_told 108 = .ok (.aload_n 0, 1) := by decide +kernel
theorem dX9_told_109 : decode cX9_told 109 = .ok (.getfield 43, 3) := by decide +kernel
theorem dX9_told_112 : decode cX9_told 112 = .ok (.getfield 121, 3) := by decide +kernel
theorem dX9_told_115 : decode cX9_told 115 = .ok (.ireturn, 1) := by decide +kernel
theorem dX9_told_116 : decode cX9_told 116 = .ok (.aload_n 0, 1) := by decide +kernel
theorem dX9_told_117 : decode cX9_told 117 = .ok (.getfield 29, 3) := by decide +kernel
theorem dX9_told_120 : decode cX9_told 120 = .ok (.getfield 122, 3) := by decide +kernel
theorem dX9_told_123 : decode cX9_told 123 = .ok (.ireturn, 1) := by decide +kernel
theorem dX9_told_124 : decode cX9_told 124 = .ok (.ldc 123, 2) := by decide +kernel
theorem dX9_told_126 : decode cX9_told 126 = .ok (.ireturn, 1) := by decide +kernel
theorem dX9_person_0 : decode cX9_person 0 = .ok (.aload_n 0, 1) := by decide +kernel
theorem dX9_person_1 : decode cX9_person 1 = .ok (.getfield 19, 3) := by decide +kernel
theorem dX9_person_4 : decode cX9_person 4 = .ok (.iload_n 1, 1) := by decide +kernel
theorem dX9_person_5 : decode cX9_person 5 = .ok (.invokevirtual 124, 3) := by decide +kernel
theorem dX9_person_8 : decode cX9_person 8 = .ok (.ifCond .ne 6, 3) := by decide +kernel
theorem dX9_person_11 : decode cX9_person 11 = .ok (.ldc 128, 2) := by decide +kernel
theorem dX9_person_13 : decode cX9_person 13 = .ok (.ireturn, 1) := by decide +kernel
theorem dX9_person_14 : decode cX9_person 14 = .ok (.iload_n 2, 1) := by decide +kernel
theorem dX9_person_15 : decode cX9_person 15 = .ok (.tableswitch 78 0 4 #[33, 42, 51, 60, 69], 33) := by decide +kernel
theorem dX9_person_48 : decode cX9_person 48 = .ok (.aload_n 0, 1) := by decide +kernel
theorem dX9_person_49 : decode cX9_person 49 = .ok (.getfield 19, 3) := by decide +kernel
theorem dX9_person_52 : decode cX9_person 52 = .ok (.iload_n 1, 1) := by decide +kernel
theorem dX9_person_53 : decode cX9_person 53 = .ok (.invokevirtual 129, 3) := by decide +kernel
theorem dX9_person_56 : decode cX9_person 56 = .ok (.ireturn, 1) := by decide +kernel
theorem dX9_person_57 : decode cX9_person 57 = .ok (.aload_n 0, 1) := by decide +kernel
theorem dX9_person_58 : decode cX9_person 58 = .ok (.getfield 19, 3) := by decide +kernel
theorem dX9_person_61 : decode cX9_person 61 = .ok (.iload_n 1, 1) := by decide +kernel
theorem dX9_person_62 : decode cX9_person 62 = .ok (.invokevirtual 132, 3) := by decide +kernel
theorem dX9_person_65 : decode cX9_person 65 = .ok (.ireturn, 1) := by decide +kernel
theorem dX9_person_66 : decode cX9_person 66 = .ok (.aload_n 0, 1) := by decide +kernel
theorem dX9_person_67 : decode cX9_person 67 = .ok (.getfield 19, 3) := by decide +kernel
theorem dX9_person_70 : decode cX9_person 70 = .ok (.iload_n 1, 1) := by decide +kernel
theorem dX9_person_71 : decode cX9_person 71 = .ok (.invokevirtual 135, 3) := by decide +kernel
theorem dX9_person_74 : decode cX9_person 74 = .ok (.ireturn, 1) := by decide +kernel
theorem dX9_person_75 : decode cX9_person 75 = .ok (.aload_n 0, 1) := by decide +kernel
theorem dX9_person_76 : decode cX9_person 76 = .ok (.getfield 19, 3) := by decide +kernel
theorem dX9_person_79 : decode cX9_person 79 = .ok (.iload_n 1, 1) := by decide +kernel
theorem dX9_person_80 : decode cX9_person 80 = .ok (.invokevirtual 138, 3) := by decide +kernel
theorem dX9_person_83 : decode cX9_person 83 = .ok (.ireturn, 1) := by decide +kernel
theorem dX9_person_84 : decode cX9_person 84 = .ok (.aload_n 0, 1) := by decide +kernel
theorem dX9_person_85 : decode cX9_person 85 = .ok (.getfield 19, 3) := by decide +kernel
theorem dX9_person_88 : decode cX9_person 88 = .ok (.iload_n 1, 1) := by decide +kernel
theorem dX9_person_89 : decode cX9_person 89 = .ok (.invokevirtual 141, 3) := by decide +kernel
theorem dX9_person_92 : decode cX9_person 92 = .ok (.ireturn, 1) := by decide +kernel
theorem dX9_person_93 : decode cX9_person 93 = .ok (.ldc 123, 2) := by decide +kernel
theorem dX9_person_95 : decode cX9_person 95 = .ok (.ireturn, 1) := by decide +kernel
theorem dX9_remembers_0 : decode cX9_remembers 0 = .ok (.aload_n 0, 1) := by decide +kernel
theorem dX9_remembers_1 : decode cX9_remembers 1 = .ok (.getfield 19, 3) := by decide +kernel
theorem dX9_remembers_4 : decode cX9_remembers 4 = .ok (.iload_n 1, 1) := by decide +kernel
theorem dX9_remembers_5 : decode cX9_remembers 5 = .ok (.iload_n 2, 1) := by decide +kernel
theorem dX9_remembers_6 : decode cX9_remembers 6 = .ok (.invokevirtual 144, 3) := by decide +kernel
theorem dX9_remembers_9 : decode cX9_remembers 9 = .ok (.ifCond .eq 15, 3) := by decide +kernel
theorem dX9_remembers_12 : decode cX9_remembers 12 = .ok (.aload_n 0, 1) := by decide +kernel
theorem dX9_remembers_13 : decode cX9_remembers 13 = .ok (.getfield 19, 3) := by decide +kernel
theorem dX9_remembers_16 : decode cX9_remembers 16 = .ok (.iload_n 1, 1) := by decide +kernel
theorem dX9_remembers_17 : decode cX9_remembers 17 = .ok (.iload_n 2, 1) := by decide +kernel
theorem dX9_remembers_18 : decode cX9_remembers 18 = .ok (.invokevirtual 148, 3) := by decide +kernel
theorem dX9_remembers_21 : decode cX9_remembers 21 = .ok (.goto 5, 3) := by decide +kernel
theorem dX9_remembers_24 : decode cX9_remembers 24 = .ok (.ldc 128, 2) := by decide +kernel
theorem dX9_remembers_26 : decode cX9_remembers 26 = .ok (.ireturn, 1) := by decide +kernel
theorem dX9_year_0 : decode cX9_year 0 = .ok (.aload_n 0, 1) := by decide +kernel
theorem dX9_year_1 : decode cX9_year 1 = .ok (.iload_n 1, 1) := by decide +kernel
theorem dX9_year_2 : decode cX9_year 2 = .ok (.invokevirtual 152, 3) := by decide +kernel
theorem dX9_year_5 : decode cX9_year 5 = .ok (.istore_n 2, 1) := by decide +kernel
theorem dX9_year_6 : decode cX9_year 6 = .ok (.iload_n 2, 1) := by decide +kernel
theorem dX9_year_7 : decode cX9_year 7 = .ok (.ifCond .eq 5, 3) := by decide +kernel
theorem dX9_year_10 : decode cX9_year 10 = .ok (.iload_n 2, 1) := by decide +kernel
theorem dX9_year_11 : decode cX9_year 11 = .ok (.ireturn, 1) := by decide +kernel
theorem dX9_year_12 : decode cX9_year 12 = .ok (.aload_n 0, 1) := by decide +kernel
theorem dX9_year_13 : decode cX9_year 13 = .ok (.getfield 29, 3) := by decide +kernel
theorem dX9_year_16 : decode cX9_year 16 = .ok (.aload_n 0, 1) := by decide +kernel
theorem dX9_year_17 : decode cX9_year 17 = .ok (.getfield 19, 3) := by decide +kernel
theorem dX9_year_20 : decode cX9_year 20 = .ok (.invokevirtual 155, 3) := by decide +kernel
theorem dX9_year_23 : decode cX9_year 23 = .ok (.aload_n 0, 1) := by decide +kernel
theorem dX9_year_24 : decode cX9_year 24 = .ok (.getfield 19, 3) := by decide +kernel
theorem dX9_year_27 : decode cX9_year 27 = .ok (.iload_n 1, 1) := by decide +kernel
theorem dX9_year_28 : decode cX9_year 28 = .ok (.invokevirtual 158, 3) := by decide +kernel
theorem dX9_year_31 : decode cX9_year 31 = .ok (.aload_n 0, 1) := by decide +kernel
theorem dX9_year_32 : decode cX9_year 32 = .ok (.getfield 19, 3) := by decide +kernel
theorem dX9_year_35 : decode cX9_year 35 = .ok (.getfield 107, 3) := by decide +kernel
theorem dX9_year_38 : decode cX9_year 38 = .ok (.ireturn, 1) := by decide +kernel
theorem dX9_meet_0 : decode cX9_meet 0 = .ok (.aload_n 0, 1) := by decide +kernel
theorem dX9_meet_1 : decode cX9_meet 1 = .ok (.getfield 19, 3) := by decide +kernel
theorem dX9_meet_4 : decode cX9_meet 4 = .ok (.iload_n 1, 1) := by decide +kernel
theorem dX9_meet_5 : decode cX9_meet 5 = .ok (.iload_n 2, 1) := by decide +kernel
theorem dX9_meet_6 : decode cX9_meet 6 = .ok (.invokevirtual 144, 3) := by decide +kernel
theorem dX9_meet_9 : decode cX9_meet 9 = .ok (.ifCond .ne 6, 3) := by decide +kernel
theorem dX9_meet_12 : decode cX9_meet 12 = .ok (.ldc 128, 2) := by decide +kernel
theorem dX9_meet_14 : decode cX9_meet 14 = .ok (.ireturn, 1) := by decide +kernel
theorem dX9_meet_15 : decode cX9_meet 15 = .ok (.aload_n 0, 1) := by decide +kernel
theorem dX9_meet_16 : decode cX9_meet 16 = .ok (.getfield 29, 3) := by decide +kernel
theorem dX9_meet_19 : decode cX9_meet 19 = .ok (.aload_n 0, 1) := by decide +kernel
theorem dX9_meet_20 : decode cX9_meet 20 = .ok (.getfield 19, 3) := by decide +kernel
theorem dX9_meet_23 : decode cX9_meet 23 = .ok (.invokevirtual 155, 3) := by decide +kernel
theorem dX9_meet_26 : decode cX9_meet 26 = .ok (.aload_n 0, 1) := by decide +kernel
theorem dX9_meet_27 : decode cX9_meet 27 = .ok (.getfield 19, 3) := by decide +kernel
theorem dX9_meet_30 : decode cX9_meet 30 = .ok (.iload_n 1, 1) := by decide +kernel
theorem dX9_meet_31 : decode cX9_meet 31 = .ok (.iload_n 2, 1) := by decide +kernel
theorem dX9_meet_32 : decode cX9_meet 32 = .ok (.invokevirtual 148, 3) := by decide +kernel
theorem dX9_meet_35 : decode cX9_meet 35 = .ok (.istore_n 3, 1) := by decide +kernel
theorem dX9_meet_36 : decode cX9_meet 36 = .ok (.aload_n 0, 1) := by decide +kernel
theorem dX9_meet_37 : decode cX9_meet 37 = .ok (.getfield 19, 3) := by decide +kernel
theorem dX9_meet_40 : decode cX9_meet 40 = .ok (.iload_n 1, 1) := by decide +kernel
theorem dX9_meet_41 : decode cX9_meet 41 = .ok (.iload_n 2, 1) := by decide +kernel
theorem dX9_meet_42 : decode cX9_meet 42 = .ok (.invokevirtual 162, 3) := by decide +kernel
theorem dX9_meet_45 : decode cX9_meet 45 = .ok (.iload_n 3, 1) := by decide +kernel
theorem dX9_meet_46 : decode cX9_meet 46 = .ok (.iconst (-1), 1) := by decide +kernel
theorem dX9_meet_47 : decode cX9_meet 47 = .ok (.if_icmp .ne 7, 3) := by decide +kernel
theorem dX9_meet_50 : decode cX9_meet 50 = .ok (.iconst (-1), 1) := by decide +kernel
theorem dX9_meet_51 : decode cX9_meet 51 = .ok (.goto 15, 3) := by decide +kernel
theorem dX9_meet_54 : decode cX9_meet 54 = .ok (.iload_n 3, 1) := by decide +kernel
theorem dX9_meet_55 : decode cX9_meet 55 = .ok (.aload_n 0, 1) := by decide +kernel
theorem dX9_meet_56 : decode cX9_meet 56 = .ok (.getfield 19, 3) := by decide +kernel
theorem dX9_meet_59 : decode cX9_meet 59 = .ok (.iload_n 2, 1) := by decide +kernel
theorem dX9_meet_60 : decode cX9_meet 60 = .ok (.invokevirtual 129, 3) := by decide +kernel
theorem dX9_meet_63 : decode cX9_meet 63 = .ok (.invokestatic 166, 3) := by decide +kernel
theorem dX9_meet_66 : decode cX9_meet 66 = .ok (.ireturn, 1) := by decide +kernel
theorem dX9_forget_0 : decode cX9_forget 0 = .ok (.aload_n 0, 1) := by decide +kernel
theorem dX9_forget_1 : decode cX9_forget 1 = .ok (.getfield 19, 3) := by decide +kernel
theorem dX9_forget_4 : decode cX9_forget 4 = .ok (.iload_n 1, 1) := by decide +kernel
theorem dX9_forget_5 : decode cX9_forget 5 = .ok (.iload_n 2, 1) := by decide +kernel
theorem dX9_forget_6 : decode cX9_forget 6 = .ok (.invokevirtual 144, 3) := by decide +kernel
theorem dX9_forget_9 : decode cX9_forget 9 = .ok (.iconst 1, 1) := by decide +kernel
theorem dX9_forget_10 : decode cX9_forget 10 = .ok (.aload_n 0, 1) := by decide +kernel
theorem dX9_forget_11 : decode cX9_forget 11 = .ok (.getfield 19, 3) := by decide +kernel
theorem dX9_forget_14 : decode cX9_forget 14 = .ok (.iload_n 1, 1) := by decide +kernel
theorem dX9_forget_15 : decode cX9_forget 15 = .ok (.iload_n 2, 1) := by decide +kernel
theorem dX9_forget_16 : decode cX9_forget 16 = .ok (.invokevirtual 171, 3) := by decide +kernel
theorem dX9_forget_19 : decode cX9_forget 19 = .ok (.iconst 1, 1) := by decide +kernel
theorem dX9_forget_20 : decode cX9_forget 20 = .ok (.invokestatic 72, 3) := by decide +kernel
theorem dX9_forget_23 : decode cX9_forget 23 = .ok (.istore_n 3, 1) := by decide +kernel
theorem dX9_forget_24 : decode cX9_forget 24 = .ok (.iload_n 3, 1) := by decide +kernel
theorem dX9_forget_25 : decode cX9_forget 25 = .ok (.ifCond .eq 5, 3) := by decide +kernel
theorem dX9_forget_28 : decode cX9_forget 28 = .ok (.iload_n 3, 1) := by decide +kernel
theorem dX9_forget_29 : decode cX9_forget 29 = .ok (.ireturn, 1) := by decide +kernel
theorem dX9_forget_30 : decode cX9_forget 30 = .ok (.aload_n 0, 1) := by decide +kernel
theorem dX9_forget_31 : decode cX9_forget 31 = .ok (.getfield 29, 3) := by decide +kernel
theorem dX9_forget_34 : decode cX9_forget 34 = .ok (.aload_n 0, 1) := by decide +kernel
theorem dX9_forget_35 : decode cX9_forget 35 = .ok (.getfield 19, 3) := by decide +kernel
theorem dX9_forget_38 : decode cX9_forget 38 = .ok (.invokevirtual 155, 3) := by decide +kernel
theorem dX9_forget_41 : decode cX9_forget 41 = .ok (.aload_n 0, 1) := by decide +kernel
theorem dX9_forget_42 : decode cX9_forget 42 = .ok (.getfield 19, 3) := by decide +kernel
theorem dX9_forget_45 : decode cX9_forget 45 = .ok (.iload_n 1, 1) := by decide +kernel
theorem dX9_forget_46 : decode cX9_forget 46 = .ok (.iload_n 2, 1) := by decide +kernel
theorem dX9_forget_47 : decode cX9_forget 47 = .ok (.invokevirtual 148, 3) := by decide +kernel
theorem dX9_forget_50 : decode cX9_forget 50 = .ok (.istore 4, 2) := by decide +kernel
theorem dX9_forget_52 : decode cX9_forget 52 = .ok (.aload_n 0, 1) := by decide +kernel
theorem dX9_forget_53 : decode cX9_forget 53 = .ok (.getfield 19, 3) := by decide +kernel
theorem dX9_forget_56 : decode cX9_forget 56 = .ok (.iload_n 1, 1) := by decide +kernel
theorem dX9_forget_57 : decode cX9_forget 57 = .ok (.iload_n 2, 1) := by decide +kernel
theorem dX9_forget_58 : decode cX9_forget 58 = .ok (.invokevirtual 174, 3) := by decide +kernel
theorem dX9_forget_61 : decode cX9_forget 61 = .ok (.iload 4, 2) := by decide +kernel
theorem dX9_forget_63 : decode cX9_forget 63 = .ok (.ireturn, 1) := by decide +kernel
theorem dX9_parade_0 : decode cX9_parade 0 = .ok (.aload_n 0, 1) := by decide +kernel
theorem dX9_parade_1 : decode cX9_parade 1 = .ok (.iload_n 1, 1) := by decide +kernel
theorem dX9_parade_2 : decode cX9_parade 2 = .ok (.iload_n 2, 1) := by decide +kernel
theorem dX9_parade_3 : decode cX9_parade 3 = .ok (.iload_n 3, 1) := by decide +kernel
theorem dX9_parade_4 : decode cX9_parade 4 = .ok (.invokevirtual 177, 3) := by decide +kernel
theorem dX9_parade_7 : decode cX9_parade 7 = .ok (.iload_n 3, 1) := by decide +kernel
theorem dX9_parade_8 : decode cX9_parade 8 = .ok (.invokestatic 180, 3) := by decide +kernel
theorem dX9_parade_11 : decode cX9_parade 11 = .ok (.aload_n 0, 1) := by decide +kernel
theorem dX9_parade_12 : decode cX9_parade 12 = .ok (.getfield 19, 3) := by decide +kernel
theorem dX9_parade_15 : decode cX9_parade 15 = .ok (.iload_n 1, 1) := by decide +kernel
theorem dX9_parade_16 : decode cX9_parade 16 = .ok (.iload_n 2, 1) := by decide +kernel
theorem dX9_parade_17 : decode cX9_parade 17 = .ok (.invokevirtual 171, 3) := by decide +kernel
theorem dX9_parade_20 : decode cX9_parade 20 = .ok (.iconst 1, 1) := by decide +kernel
theorem dX9_parade_21 : decode cX9_parade 21 = .ok (.invokestatic 72, 3) := by decide +kernel
theorem dX9_parade_24 : decode cX9_parade 24 = .ok (.istore 4, 2) := by decide +kernel
theorem dX9_parade_26 : decode cX9_parade 26 = .ok (.iload 4, 2) := by decide +kernel
theorem dX9_parade_28 : decode cX9_parade 28 = .ok (.ifCond .eq 6, 3) := by decide +kernel
theorem dX9_parade_31 : decode cX9_parade 31 = .ok (.iload 4, 2) := by decide +kernel
theorem dX9_parade_33 : decode cX9_parade 33 = .ok (.ireturn, 1) := by decide +kernel
theorem dX9_parade_34 : decode cX9_parade 34 = .ok (.aload_n 0, 1) := by decide +kernel
theorem dX9_parade_35 : decode cX9_parade 35 = .ok (.getfield 29, 3) := by decide +kernel
theorem dX9_parade_38 : decode cX9_parade 38 = .ok (.aload_n 0, 1) := by decide +kernel
theorem dX9_parade_39 : decode cX9_parade 39 = .ok (.getfield 19, 3) := by decide +kernel
theorem dX9_parade_42 : decode cX9_parade 42 = .ok (.invokevirtual 155, 3) := by decide +kernel
theorem dX9_parade_45 : decode cX9_parade 45 = .ok (.aload_n 0, 1) := by decide +kernel
theorem dX9_parade_46 : decode cX9_parade 46 = .ok (.getfield 19, 3) := by decide +kernel
theorem dX9_parade_49 : decode cX9_parade 49 = .ok (.aload_n 0, 1) := by decide +kernel
theorem dX9_parade_50 : decode cX9_parade 50 = .ok (.getfield 19, 3) := by decide +kernel
theorem dX9_parade_53 : decode cX9_parade 53 = .ok (.iload_n 1, 1) := by decide +kernel
theorem dX9_parade_54 : decode cX9_parade 54 = .ok (.iload_n 2, 1) := by decide +kernel
theorem dX9_parade_55 : decode cX9_parade 55 = .ok (.invokevirtual 148, 3) := by decide +kernel
theorem dX9_parade_58 : decode cX9_parade 58 = .ok (.iload_n 3, 1) := by decide +kernel
theorem dX9_parade_59 : decode cX9_parade 59 = .ok (.invokestatic 183, 3) := by decide +kernel
theorem dX9_parade_62 : decode cX9_parade 62 = .ok (.istore 5, 2) := by decide +kernel
theorem dX9_parade_64 : decode cX9_parade 64 = .ok (.aload_n 0, 1) := by decide +kernel
theorem dX9_parade_65 : decode cX9_parade 65 = .ok (.getfield 19, 3) := by decide +kernel
theorem dX9_parade_68 : decode cX9_parade 68 = .ok (.iload 5, 2) := by decide +kernel
theorem dX9_parade_70 : decode cX9_parade 70 = .ok (.iload_n 2, 1) := by decide +kernel
theorem dX9_parade_71 : decode cX9_parade 71 = .ok (.invokevirtual 187, 3) := by decide +kernel
theorem dX9_parade_74 : decode cX9_parade 74 = .ok (.iload 5, 2) := by decide +kernel
theorem dX9_parade_76 : decode cX9_parade 76 = .ok (.ireturn, 1) := by decide +kernel
theorem dX9_mark_0 : decode cX9_mark 0 = .ok (.aload_n 0, 1) := by decide +kernel
theorem dX9_mark_1 : decode cX9_mark 1 = .ok (.getfield 19, 3) := by decide +kernel
theorem dX9_mark_4 : decode cX9_mark 4 = .ok (.iload_n 1, 1) := by decide +kernel
theorem dX9_mark_5 : decode cX9_mark 5 = .ok (.invokevirtual 124, 3) := by decide +kernel
theorem dX9_mark_8 : decode cX9_mark 8 = .ok (.iload_n 2, 1) := by decide +kernel
theorem dX9_mark_9 : decode cX9_mark 9 = .ok (.iconst 0, 1) := by decide +kernel
theorem dX9_mark_10 : decode cX9_mark 10 = .ok (.bipush 7, 2) := by decide +kernel
theorem dX9_mark_12 : decode cX9_mark 12 = .ok (.invokestatic 64, 3) := by decide +kernel
theorem dX9_mark_15 : decode cX9_mark 15 = .ok (.iconst 1, 1) := by decide +kernel
theorem dX9_mark_16 : decode cX9_mark 16 = .ok (.iconst 1, 1) := by decide +kernel
theorem dX9_mark_17 : decode cX9_mark 17 = .ok (.invokestatic 72, 3) := by decide +kernel
theorem dX9_mark_20 : decode cX9_mark 20 = .ok (.istore_n 3, 1) := by decide +kernel
theorem dX9_mark_21 : decode cX9_mark 21 = .ok (.iload_n 3, 1) := by decide +kernel
theorem dX9_mark_22 : decode cX9_mark 22 = .ok (.ifCond .eq 5, 3) := by decide +kernel
theorem dX9_mark_25 : decode cX9_mark 25 = .ok (.iload_n 3, 1) := by decide +kernel
theorem dX9_mark_26 : decode cX9_mark 26 = .ok (.ireturn, 1) := by decide +kernel
theorem dX9_mark_27 : decode cX9_mark 27 = .ok (.aload_n 0, 1) := by decide +kernel
theorem dX9_mark_28 : decode cX9_mark 28 = .ok (.getfield 29, 3) := by decide +kernel
theorem dX9_mark_31 : decode cX9_mark 31 = .ok (.aload_n 0, 1) := by decide +kernel
theorem dX9_mark_32 : decode cX9_mark 32 = .ok (.getfield 19, 3) := by decide +kernel
theorem dX9_mark_35 : decode cX9_mark 35 = .ok (.invokevirtual 155, 3) := by decide +kernel
theorem dX9_mark_38 : decode cX9_mark 38 = .ok (.aload_n 0, 1) := by decide +kernel
theorem dX9_mark_39 : decode cX9_mark 39 = .ok (.getfield 19, 3) := by decide +kernel
theorem dX9_mark_42 : decode cX9_mark 42 = .ok (.iload_n 1, 1) := by decide +kernel
theorem dX9_mark_43 : decode cX9_mark 43 = .ok (.iload_n 2, 1) := by decide +kernel
theorem dX9_mark_44 : decode cX9_mark 44 = .ok (.invokevirtual 190, 3) := by decide +kernel
theorem dX9_mark_47 : decode cX9_mark 47 = .ok (.aload_n 0, 1) := by decide +kernel
theorem dX9_mark_48 : decode cX9_mark 48 = .ok (.getfield 19, 3) := by decide +kernel
theorem dX9_mark_51 : decode cX9_mark 51 = .ok (.iload_n 1, 1) := by decide +kernel
theorem dX9_mark_52 : decode cX9_mark 52 = .ok (.invokevirtual 129, 3) := by decide +kernel
theorem dX9_mark_55 : decode cX9_mark 55 = .ok (.ireturn, 1) := by decide +kernel
theorem dX9_drift_0 : decode cX9_drift 0 = .ok (.aload_n 0, 1) := by decide +kernel
theorem dX9_drift_1 : decode cX9_drift 1 = .ok (.iload_n 1, 1) := by decide +kernel
theorem dX9_drift_2 : decode cX9_drift 2 = .ok (.invokevirtual 152, 3) := by decide +kernel
theorem dX9_drift_5 : decode cX9_drift 5 = .ok (.istore_n 2, 1) := by decide +kernel
theorem dX9_drift_6 : decode cX9_drift 6 = .ok (.iload_n 2, 1) := by decide +kernel
theorem dX9_drift_7 : decode cX9_drift 7 = .ok (.ifCond .eq 5, 3) := by decide +kernel
theorem dX9_drift_10 : decode cX9_drift 10 = .ok (.iload_n 2, 1) := by decide +kernel
theorem dX9_drift_11 : decode cX9_drift 11 = .ok (.ireturn, 1) := by decide +kernel
theorem dX9_drift_12 : decode cX9_drift 12 = .ok (.aload_n 0, 1) := by decide +kernel
theorem dX9_drift_13 : decode cX9_drift 13 = .ok (.getfield 29, 3) := by decide +kernel
theorem dX9_drift_16 : decode cX9_drift 16 = .ok (.aload_n 0, 1) := by decide +kernel
theorem dX9_drift_17 : decode cX9_drift 17 = .ok (.getfield 19, 3) := by decide +kernel
theorem dX9_drift_20 : decode cX9_drift 20 = .ok (.invokevirtual 155, 3) := by decide +kernel
theorem dX9_drift_23 : decode cX9_drift 23 = .ok (.iconst 0, 1) := by decide +kernel
theorem dX9_drift_24 : decode cX9_drift 24 = .ok (.istore_n 3, 1) := by decide +kernel
theorem dX9_drift_25 : decode cX9_drift 25 = .ok (.iload_n 3, 1) := by decide +kernel
theorem dX9_drift_26 : decode cX9_drift 26 = .ok (.iload_n 1, 1) := by decide +kernel
theorem dX9_drift_27 : decode cX9_drift 27 = .ok (.if_icmp .ge 27, 3) := by decide +kernel
theorem dX9_drift_30 : decode cX9_drift 30 = .ok (.iload_n 3, 1) := by decide +kernel
theorem dX9_drift_31 : decode cX9_drift 31 = .ok (.bipush 60, 2) := by decide +kernel
theorem dX9_drift_33 : decode cX9_drift 33 = .ok (.if_icmp .ge 21, 3) := by decide +kernel
theorem dX9_drift_36 : decode cX9_drift 36 = .ok (.aload_n 0, 1) := by decide +kernel
theorem dX9_drift_37 : decode cX9_drift 37 = .ok (.invokevirtual 193, 3) := by decide +kernel
theorem dX9_drift_40 : decode cX9_drift 40 = .ok (.aload_n 0, 1) := by decide +kernel
theorem dX9_drift_41 : decode cX9_drift 41 = .ok (.getfield 19, 3) := by decide +kernel
theorem dX9_drift_44 : decode cX9_drift 44 = .ok (.iconst 1, 1) := by decide +kernel
theorem dX9_drift_45 : decode cX9_drift 45 = .ok (.invokevirtual 158, 3) := by decide +kernel
theorem dX9_drift_48 : decode cX9_drift 48 = .ok (.iinc 3 1, 3) := by decide +kernel
theorem dX9_drift_51 : decode cX9_drift 51 = .ok (.goto (-26), 3) := by decide +kernel
theorem dX9_drift_54 : decode cX9_drift 54 = .ok (.aload_n 0, 1) := by decide +kernel
theorem dX9_drift_55 : decode cX9_drift 55 = .ok (.getfield 19, 3) := by decide +kernel
theorem dX9_drift_58 : decode cX9_drift 58 = .ok (.getfield 107, 3) := by decide +kernel
theorem dX9_drift_61 : decode cX9_drift 61 = .ok (.ireturn, 1) := by decide +kernel
theorem dX9_undo_0 : decode cX9_undo 0 = .ok (.aload_n 0, 1) := by decide +kernel
theorem dX9_undo_1 : decode cX9_undo 1 = .ok (.getfield 29, 3) := by decide +kernel
theorem dX9_undo_4 : decode cX9_undo 4 = .ok (.aload_n 0, 1) := by decide +kernel
theorem dX9_undo_5 : decode cX9_undo 5 = .ok (.getfield 19, 3) := by decide +kernel
theorem dX9_undo_8 : decode cX9_undo 8 = .ok (.invokevirtual 196, 3) := by decide +kernel
theorem dX9_undo_11 : decode cX9_undo 11 = .ok (.ifCond .eq 13, 3) := by decide +kernel
theorem dX9_undo_14 : decode cX9_undo 14 = .ok (.aload_n 0, 1) := by decide +kernel
theorem dX9_undo_15 : decode cX9_undo 15 = .ok (.getfield 29, 3) := by decide +kernel
theorem dX9_undo_18 : decode cX9_undo 18 = .ok (.getfield 122, 3) := by decide +kernel
theorem dX9_undo_21 : decode cX9_undo 21 = .ok (.goto 5, 3) := by decide +kernel
theorem dX9_undo_24 : decode cX9_undo 24 = .ok (.ldc 200, 2) := by decide +kernel
theorem dX9_undo_26 : decode cX9_undo 26 = .ok (.ireturn, 1) := by decide +kernel
theorem dX9_sure_0 : decode cX9_sure 0 = .ok (.aload_n 0, 1) := by decide +kernel
theorem dX9_sure_1 : decode cX9_sure 1 = .ok (.iload_n 1, 1) := by decide +kernel
theorem dX9_sure_2 : decode cX9_sure 2 = .ok (.iload_n 2, 1) := by decide +kernel
theorem dX9_sure_3 : decode cX9_sure 3 = .ok (.iload_n 3, 1) := by decide +kernel
theorem dX9_sure_4 : decode cX9_sure 4 = .ok (.invokevirtual 177, 3) := by decide +kernel
theorem dX9_sure_7 : decode cX9_sure 7 = .ok (.iload_n 3, 1) := by decide +kernel
theorem dX9_sure_8 : decode cX9_sure 8 = .ok (.invokestatic 180, 3) := by decide +kernel
theorem dX9_sure_11 : decode cX9_sure 11 = .ok (.ifCond .eq 15, 3) := by decide +kernel
theorem dX9_sure_14 : decode cX9_sure 14 = .ok (.iload_n 3, 1) := by decide +kernel
theorem dX9_sure_15 : decode cX9_sure 15 = .ok (.iload_n 2, 1) := by decide +kernel
theorem dX9_sure_16 : decode cX9_sure 16 = .ok (.invokestatic 201, 3) := by decide +kernel
theorem dX9_sure_19 : decode cX9_sure 19 = .ok (.ifCond .eq 7, 3) := by decide +kernel
theorem dX9_sure_22 : decode cX9_sure 22 = .ok (.iconst 1, 1) := by decide +kernel
theorem dX9_sure_23 : decode cX9_sure 23 = .ok (.goto 4, 3) := by decide +kernel
theorem dX9_sure_26 : decode cX9_sure 26 = .ok (.iconst 0, 1) := by decide +kernel
theorem dX9_sure_27 : decode cX9_sure 27 = .ok (.aload_n 0, 1) := by decide +kernel
theorem dX9_sure_28 : decode cX9_sure 28 = .ok (.getfield 19, 3) := by decide +kernel
theorem dX9_sure_31 : decode cX9_sure 31 = .ok (.iload_n 1, 1) := by decide +kernel
theorem dX9_sure_32 : decode cX9_sure 32 = .ok (.iload_n 2, 1) := by decide +kernel
theorem dX9_sure_33 : decode cX9_sure 33 = .ok (.invokevirtual 171, 3) := by decide +kernel
theorem dX9_sure_36 : decode cX9_sure 36 = .ok (.iconst 1, 1) := by decide +kernel
theorem dX9_sure_37 : decode cX9_sure 37 = .ok (.invokestatic 72, 3) := by decide +kernel
theorem dX9_sure_40 : decode cX9_sure 40 = .ok (.istore 4, 2) := by decide +kernel
theorem dX9_sure_42 : decode cX9_sure 42 = .ok (.iload 4, 2) := by decide +kernel
theorem dX9_sure_44 : decode cX9_sure 44 = .ok (.ifCond .eq 8, 3) := by decide +kernel
theorem dX9_sure_47 : decode cX9_sure 47 = .ok (.iload 4, 2) := by decide +kernel
theorem dX9_sure_49 : decode cX9_sure 49 = .ok (.goto 21, 3) := by decide +kernel
theorem dX9_sure_52 : decode cX9_sure 52 = .ok (.aload_n 0, 1) := by decide +kernel
theorem dX9_sure_53 : decode cX9_sure 53 = .ok (.getfield 19, 3) := by decide +kernel
theorem dX9_sure_56 : decode cX9_sure 56 = .ok (.aload_n 0, 1) := by decide +kernel
theorem dX9_sure_57 : decode cX9_sure 57 = .ok (.getfield 19, 3) := by decide +kernel
theorem dX9_sure_60 : decode cX9_sure 60 = .ok (.iload_n 1, 1) := by decide +kernel
theorem dX9_sure_61 : decode cX9_sure 61 = .ok (.iload_n 2, 1) := by decide +kernel
theorem dX9_sure_62 : decode cX9_sure 62 = .ok (.invokevirtual 148, 3) := by decide +kernel
theorem dX9_sure_65 : decode cX9_sure 65 = .ok (.iload_n 3, 1) := by decide +kernel
theorem dX9_sure_66 : decode cX9_sure 66 = .ok (.iload_n 2, 1) := by decide +kernel
theorem dX9_sure_67 : decode cX9_sure 67 = .ok (.invokestatic 204, 3) := by decide +kernel
theorem dX9_sure_70 : decode cX9_sure 70 = .ok (.ireturn, 1) := by decide +kernel
theorem dX9_bestRow_0 : decode cX9_bestRow 0 = .ok (.aload_n 0, 1) := by decide +kernel
theorem dX9_bestRow_1 : decode cX9_bestRow 1 = .ok (.getfield 19, 3) := by decide +kernel
theorem dX9_bestRow_4 : decode cX9_bestRow 4 = .ok (.iload_n 1, 1) := by decide +kernel
theorem dX9_bestRow_5 : decode cX9_bestRow 5 = .ok (.iload_n 2, 1) := by decide +kernel
theorem dX9_bestRow_6 : decode cX9_bestRow 6 = .ok (.invokevirtual 144, 3) := by decide +kernel
theorem dX9_bestRow_9 : decode cX9_bestRow 9 = .ok (.iload_n 3, 1) := by decide +kernel
theorem dX9_bestRow_10 : decode cX9_bestRow 10 = .ok (.invokestatic 208, 3) := by decide +kernel
theorem dX9_bestRow_13 : decode cX9_bestRow 13 = .ok (.aload_n 0, 1) := by decide +kernel
theorem dX9_bestRow_14 : decode cX9_bestRow 14 = .ok (.getfield 19, 3) := by decide +kernel
theorem dX9_bestRow_17 : decode cX9_bestRow 17 = .ok (.iload_n 1, 1) := by decide +kernel
theorem dX9_bestRow_18 : decode cX9_bestRow 18 = .ok (.iload_n 2, 1) := by decide +kernel
theorem dX9_bestRow_19 : decode cX9_bestRow 19 = .ok (.invokevirtual 171, 3) := by decide +kernel
theorem dX9_bestRow_22 : decode cX9_bestRow 22 = .ok (.iconst 1, 1) := by decide +kernel
theorem dX9_bestRow_23 : decode cX9_bestRow 23 = .ok (.invokestatic 72, 3) := by decide +kernel
theorem dX9_bestRow_26 : decode cX9_bestRow 26 = .ok (.istore 4, 2) := by decide +kernel
theorem dX9_bestRow_28 : decode cX9_bestRow 28 = .ok (.iload 4, 2) := by decide +kernel
theorem dX9_bestRow_30 : decode cX9_bestRow 30 = .ok (.ifCond .eq 8, 3) := by decide +kernel
theorem dX9_bestRow_33 : decode cX9_bestRow 33 = .ok (.iload 4, 2) := by decide +kernel
theorem dX9_bestRow_35 : decode cX9_bestRow 35 = .ok (.goto 13, 3) := by decide +kernel
theorem dX9_bestRow_38 : decode cX9_bestRow 38 = .ok (.aload_n 0, 1) := by decide +kernel
theorem dX9_bestRow_39 : decode cX9_bestRow 39 = .ok (.getfield 19, 3) := by decide +kernel
theorem dX9_bestRow_42 : decode cX9_bestRow 42 = .ok (.iload_n 1, 1) := by decide +kernel
theorem dX9_bestRow_43 : decode cX9_bestRow 43 = .ok (.iload_n 2, 1) := by decide +kernel
theorem dX9_bestRow_44 : decode cX9_bestRow 44 = .ok (.iload_n 3, 1) := by decide +kernel
theorem dX9_bestRow_45 : decode cX9_bestRow 45 = .ok (.invokestatic 211, 3) := by decide +kernel
theorem dX9_bestRow_48 : decode cX9_bestRow 48 = .ok (.ireturn, 1) := by decide +kernel
theorem dX9_odds_0 : decode cX9_odds 0 = .ok (.aload_n 0, 1) := by decide +kernel
theorem dX9_odds_1 : decode cX9_odds 1 = .ok (.iload_n 1, 1) := by decide +kernel
theorem dX9_odds_2 : decode cX9_odds 2 = .ok (.iload_n 2, 1) := by decide +kernel
theorem dX9_odds_3 : decode cX9_odds 3 = .ok (.iload_n 3, 1) := by decide +kernel
theorem dX9_odds_4 : decode cX9_odds 4 = .ok (.invokevirtual 177, 3) := by decide +kernel
theorem dX9_odds_7 : decode cX9_odds 7 = .ok (.ifCond .eq 19, 3) := by decide +kernel
theorem dX9_odds_10 : decode cX9_odds 10 = .ok (.aload_n 0, 1) := by decide +kernel
theorem dX9_odds_11 : decode cX9_odds 11 = .ok (.getfield 19, 3) := by decide +kernel
theorem dX9_odds_14 : decode cX9_odds 14 = .ok (.iload 4, 2) := by decide +kernel
theorem dX9_odds_16 : decode cX9_odds 16 = .ok (.invokevirtual 124, 3) := by decide +kernel
theorem dX9_odds_19 : decode cX9_odds 19 = .ok (.ifCond .eq 7, 3) := by decide +kernel
theorem dX9_odds_22 : decode cX9_odds 22 = .ok (.iconst 1, 1) := by decide +kernel
theorem dX9_odds_23 : decode cX9_odds 23 = .ok (.goto 4, 3) := by decide +kernel
theorem dX9_odds_26 : decode cX9_odds 26 = .ok (.iconst 0, 1) := by decide +kernel
theorem dX9_odds_27 : decode cX9_odds 27 = .ok (.iload_n 3, 1) := by decide +kernel
theorem dX9_odds_28 : decode cX9_odds 28 = .ok (.invokestatic 180, 3) := by decide +kernel
theorem dX9_odds_31 : decode cX9_odds 31 = .ok (.aload_n 0, 1) := by decide +kernel
theorem dX9_odds_32 : decode cX9_odds 32 = .ok (.getfield 19, 3) := by decide +kernel
theorem dX9_odds_35 : decode cX9_odds 35 = .ok (.iload_n 1, 1) := by decide +kernel
theorem dX9_odds_36 : decode cX9_odds 36 = .ok (.iload_n 2, 1) := by decide +kernel
theorem dX9_odds_37 : decode cX9_odds 37 = .ok (.invokevirtual 171, 3) := by decide +kernel
theorem dX9_odds_40 : decode cX9_odds 40 = .ok (.iconst 1, 1) := by decide +kernel
theorem dX9_odds_41 : decode cX9_odds 41 = .ok (.invokestatic 72, 3) := by decide +kernel
theorem dX9_odds_44 : decode cX9_odds 44 = .ok (.istore 5, 2) := by decide +kernel
theorem dX9_odds_46 : decode cX9_odds 46 = .ok (.iload 5, 2) := by decide +kernel
theorem dX9_odds_48 : decode cX9_odds 48 = .ok (.ifCond .eq 8, 3) := by decide +kernel
theorem dX9_odds_51 : decode cX9_odds 51 = .ok (.iload 5, 2) := by decide +kernel
theorem dX9_odds_53 : decode cX9_odds 53 = .ok (.goto 22, 3) := by decide +kernel
theorem dX9_odds_56 : decode cX9_odds 56 = .ok (.aload_n 0, 1) := by decide +kernel
theorem dX9_odds_57 : decode cX9_odds 57 = .ok (.getfield 19, 3) := by decide +kernel
theorem dX9_odds_60 : decode cX9_odds 60 = .ok (.aload_n 0, 1) := by decide +kernel
theorem dX9_odds_61 : decode cX9_odds 61 = .ok (.getfield 19, 3) := by decide +kernel
theorem dX9_odds_64 : decode cX9_odds 64 = .ok (.iload_n 1, 1) := by decide +kernel
theorem dX9_odds_65 : decode cX9_odds 65 = .ok (.iload_n 2, 1) := by decide +kernel
theorem dX9_odds_66 : decode cX9_odds 66 = .ok (.invokevirtual 148, 3) := by decide +kernel
theorem dX9_odds_69 : decode cX9_odds 69 = .ok (.iload_n 3, 1) := by decide +kernel
theorem dX9_odds_70 : decode cX9_odds 70 = .ok (.iload 4, 2) := by decide +kernel
theorem dX9_odds_72 : decode cX9_odds 72 = .ok (.invokestatic 216, 3) := by decide +kernel
theorem dX9_odds_75 : decode cX9_odds 75 = .ok (.ireturn, 1) := by decide +kernel
theorem dX9_ask_0 : decode cX9_ask 0 = .ok (.aload_n 0, 1) := by decide +kernel
theorem dX9_ask_1 : decode cX9_ask 1 = .ok (.getfield 19, 3) := by decide +kernel
theorem dX9_ask_4 : decode cX9_ask 4 = .ok (.iload_n 1, 1) := by decide +kernel
theorem dX9_ask_5 : decode cX9_ask 5 = .ok (.invokevirtual 124, 3) := by decide +kernel
theorem dX9_ask_8 : decode cX9_ask 8 = .ok (.ifCond .eq 18, 3) := by decide +kernel
theorem dX9_ask_11 : decode cX9_ask 11 = .ok (.aload_n 0, 1) := by decide +kernel
theorem dX9_ask_12 : decode cX9_ask 12 = .ok (.getfield 19, 3) := by decide +kernel
theorem dX9_ask_15 : decode cX9_ask 15 = .ok (.iload_n 2, 1) := by decide +kernel
theorem dX9_ask_16 : decode cX9_ask 16 = .ok (.invokevirtual 219, 3) := by decide +kernel
theorem dX9_ask_19 : decode cX9_ask 19 = .ok (.ifCond .eq 7, 3) := by decide +kernel
theorem dX9_ask_22 : decode cX9_ask 22 = .ok (.iconst 1, 1) := by decide +kernel
theorem dX9_ask_23 : decode cX9_ask 23 = .ok (.goto 4, 3) := by decide +kernel
theorem dX9_ask_26 : decode cX9_ask 26 = .ok (.iconst 0, 1) := by decide +kernel
theorem dX9_ask_27 : decode cX9_ask 27 = .ok (.iload_n 2, 1) := by decide +kernel
theorem dX9_ask_28 : decode cX9_ask 28 = .ok (.invokestatic 180, 3) := by decide +kernel
theorem dX9_ask_31 : decode cX9_ask 31 = .ok (.ifCond .eq 15, 3) := by decide +kernel
theorem dX9_ask_34 : decode cX9_ask 34 = .ok (.iload_n 2, 1) := by decide +kernel
theorem dX9_ask_35 : decode cX9_ask 35 = .ok (.iload_n 1, 1) := by decide +kernel
theorem dX9_ask_36 : decode cX9_ask 36 = .ok (.invokestatic 201, 3) := by decide +kernel
theorem dX9_ask_39 : decode cX9_ask 39 = .ok (.ifCond .eq 7, 3) := by decide +kernel
theorem dX9_ask_42 : decode cX9_ask 42 = .ok (.iconst 1, 1) := by decide +kernel
theorem dX9_ask_43 : decode cX9_ask 43 = .ok (.goto 4, 3) := by decide +kernel
theorem dX9_ask_46 : decode cX9_ask 46 = .ok (.iconst 0, 1) := by decide +kernel
theorem dX9_ask_47 : decode cX9_ask 47 = .ok (.iconst 1, 1) := by decide +kernel
theorem dX9_ask_48 : decode cX9_ask 48 = .ok (.iconst 1, 1) := by decide +kernel
theorem dX9_ask_49 : decode cX9_ask 49 = .ok (.invokestatic 72, 3) := by decide +kernel
theorem dX9_ask_52 : decode cX9_ask 52 = .ok (.istore_n 3, 1) := by decide +kernel
theorem dX9_ask_53 : decode cX9_ask 53 = .ok (.iload_n 3, 1) := by decide +kernel
theorem dX9_ask_54 : decode cX9_ask 54 = .ok (.ifCond .eq 7, 3) := by decide +kernel
theorem dX9_ask_57 : decode cX9_ask 57 = .ok (.iload_n 3, 1) := by decide +kernel
theorem dX9_ask_58 : decode cX9_ask 58 = .ok (.goto 12, 3) := by decide +kernel
theorem dX9_ask_61 : decode cX9_ask 61 = .ok (.aload_n 0, 1) := by decide +kernel
theorem dX9_ask_62 : decode cX9_ask 62 = .ok (.getfield 19, 3) := by decide +kernel
theorem dX9_ask_65 : decode cX9_ask 65 = .ok (.iload_n 1, 1) := by decide +kernel
theorem dX9_ask_66 : decode cX9_ask 66 = .ok (.iload_n 2, 1) := by decide +kernel
theorem dX9_ask_67 : decode cX9_ask 67 = .ok (.invokestatic 222, 3) := by decide +kernel
theorem dX9_ask_70 : decode cX9_ask 70 = .ok (.ireturn, 1) := by decide +kernel
theorem dX9_ring_0 : decode cX9_ring 0 = .ok (.aload_n 0, 1) := by decide +kernel
theorem dX9_ring_1 : decode cX9_ring 1 = .ok (.getfield 19, 3) := by decide +kernel
theorem dX9_ring_4 : decode cX9_ring 4 = .ok (.iload_n 1, 1) := by decide +kernel
theorem dX9_ring_5 : decode cX9_ring 5 = .ok (.invokevirtual 124, 3) := by decide +kernel
theorem dX9_ring_8 : decode cX9_ring 8 = .ok (.ifCond .eq 14, 3) := by decide +kernel
theorem dX9_ring_11 : decode cX9_ring 11 = .ok (.aload_n 0, 1) := by decide +kernel
theorem dX9_ring_12 : decode cX9_ring 12 = .ok (.getfield 19, 3) := by decide +kernel
theorem dX9_ring_15 : decode cX9_ring 15 = .ok (.iload_n 1, 1) := by decide +kernel
theorem dX9_ring_16 : decode cX9_ring 16 = .ok (.invokevirtual 225, 3) := by decide +kernel
theorem dX9_ring_19 : decode cX9_ring 19 = .ok (.goto 5, 3) := by decide +kernel
theorem dX9_ring_22 : decode cX9_ring 22 = .ok (.ldc 128, 2) := by decide +kernel
theorem dX9_ring_24 : decode cX9_ring 24 = .ok (.ireturn, 1) := by decide +kernel
theorem dX9_rings_0 : decode cX9_rings 0 = .ok (.iload_n 1, 1) := by decide +kernel
theorem dX9_rings_1 : decode cX9_rings 1 = .ok (.tableswitch 51 0 2 #[27, 35, 43], 27) := by decide +kernel
theorem dX9_rings_28 : decode cX9_rings 28 = .ok (.aload_n 0, 1) := by decide +kernel
theorem dX9_rings_29 : decode cX9_rings 29 = .ok (.getfield 19, 3) := by decide +kernel
theorem dX9_rings_32 : decode cX9_rings 32 = .ok (.invokevirtual 228, 3) := by decide +kernel
theorem dX9_rings_35 : decode cX9_rings 35 = .ok (.ireturn, 1) := by decide +kernel
theorem dX9_rings_36 : decode cX9_rings 36 = .ok (.aload_n 0, 1) := by decide +kernel
theorem dX9_rings_37 : decode cX9_rings 37 = .ok (.getfield 19, 3) := by decide +kernel
theorem dX9_rings_40 : decode cX9_rings 40 = .ok (.invokevirtual 231, 3) := by decide +kernel
theorem dX9_rings_43 : decode cX9_rings 43 = .ok (.ireturn, 1) := by decide +kernel
theorem dX9_rings_44 : decode cX9_rings 44 = .ok (.aload_n 0, 1) := by decide +kernel
theorem dX9_rings_45 : decode cX9_rings 45 = .ok (.getfield 19, 3) := by decide +kernel
theorem dX9_rings_48 : decode cX9_rings 48 = .ok (.invokevirtual 234, 3) := by decide +kernel
theorem dX9_rings_51 : decode cX9_rings 51 = .ok (.ireturn, 1) := by decide +kernel
theorem dX9_rings_52 : decode cX9_rings 52 = .ok (.ldc 123, 2) := by decide +kernel
theorem dX9_rings_54 : decode cX9_rings 54 = .ok (.ireturn, 1) := by decide +kernel
theorem dX9_mask_0 : decode cX9_mask 0 = .ok (.iload_n 3, 1) := by decide +kernel
theorem dX9_mask_1 : decode cX9_mask 1 = .ok (.invokestatic 180, 3) := by decide +kernel
theorem dX9_mask_4 : decode cX9_mask 4 = .ok (.ifCond .eq 26, 3) := by decide +kernel
theorem dX9_mask_7 : decode cX9_mask 7 = .ok (.iload_n 3, 1) := by decide +kernel
theorem dX9_mask_8 : decode cX9_mask 8 = .ok (.iload_n 2, 1) := by decide +kernel
theorem dX9_mask_9 : decode cX9_mask 9 = .ok (.invokestatic 201, 3) := by decide +kernel
theorem dX9_mask_12 : decode cX9_mask 12 = .ok (.ifCond .eq 18, 3) := by decide +kernel
theorem dX9_mask_15 : decode cX9_mask 15 = .ok (.iload 4, 2) := by decide +kernel
theorem dX9_mask_17 : decode cX9_mask 17 = .ok (.iconst 1, 1) := by decide +kernel
theorem dX9_mask_18 : decode cX9_mask 18 = .ok (.bipush 8, 2) := by decide +kernel
theorem dX9_mask_20 : decode cX9_mask 20 = .ok (.invokestatic 64, 3) := by decide +kernel
theorem dX9_mask_23 : decode cX9_mask 23 = .ok (.ifCond .eq 7, 3) := by decide +kernel
theorem dX9_mask_26 : decode cX9_mask 26 = .ok (.iconst 1, 1) := by decide +kernel
theorem dX9_mask_27 : decode cX9_mask 27 = .ok (.goto 4, 3) := by decide +kernel
theorem dX9_mask_30 : decode cX9_mask 30 = .ok (.iconst 0, 1) := by decide +kernel
theorem dX9_mask_31 : decode cX9_mask 31 = .ok (.istore 5, 2) := by decide +kernel
theorem dX9_mask_33 : decode cX9_mask 33 = .ok (.aload_n 0, 1) := by decide +kernel
theorem dX9_mask_34 : decode cX9_mask 34 = .ok (.iload_n 1, 1) := by decide +kernel
theorem dX9_mask_35 : decode cX9_mask 35 = .ok (.iload_n 2, 1) := by decide +kernel
theorem dX9_mask_36 : decode cX9_mask 36 = .ok (.iload_n 3, 1) := by decide +kernel
theorem dX9_mask_37 : decode cX9_mask 37 = .ok (.invokevirtual 177, 3) := by decide +kernel
theorem dX9_mask_40 : decode cX9_mask 40 = .ok (.iload 5, 2) := by decide +kernel
theorem dX9_mask_42 : decode cX9_mask 42 = .ok (.aload_n 0, 1) := by decide +kernel
theorem dX9_mask_43 : decode cX9_mask 43 = .ok (.getfield 19, 3) := by decide +kernel
theorem dX9_mask_46 : decode cX9_mask 46 = .ok (.iload_n 1, 1) := by decide +kernel
theorem dX9_mask_47 : decode cX9_mask 47 = .ok (.iload_n 2, 1) := by decide +kernel
theorem dX9_mask_48 : decode cX9_mask 48 = .ok (.invokevirtual 171, 3) := by decide +kernel
theorem dX9_mask_51 : decode cX9_mask 51 = .ok (.iconst 1, 1) := by decide +kernel
theorem dX9_mask_52 : decode cX9_mask 52 = .ok (.invokestatic 72, 3) := by decide +kernel
theorem dX9_mask_55 : decode cX9_mask 55 = .ok (.istore 6, 2) := by decide +kernel
theorem dX9_mask_57 : decode cX9_mask 57 = .ok (.iload 6, 2) := by decide +kernel
theorem dX9_mask_59 : decode cX9_mask 59 = .ok (.ifCond .eq 8, 3) := by decide +kernel
theorem dX9_mask_62 : decode cX9_mask 62 = .ok (.iload 6, 2) := by decide +kernel
theorem dX9_mask_64 : decode cX9_mask 64 = .ok (.goto 23, 3) := by decide +kernel
theorem dX9_mask_67 : decode cX9_mask 67 = .ok (.aload_n 0, 1) := by decide +kernel
theorem dX9_mask_68 : decode cX9_mask 68 = .ok (.getfield 19, 3) := by decide +kernel
theorem dX9_mask_71 : decode cX9_mask 71 = .ok (.aload_n 0, 1) := by decide +kernel
theorem dX9_mask_72 : decode cX9_mask 72 = .ok (.getfield 19, 3) := by decide +kernel
theorem dX9_mask_75 : decode cX9_mask 75 = .ok (.iload_n 1, 1) := by decide +kernel
theorem dX9_mask_76 : decode cX9_mask 76 = .ok (.iload_n 2, 1) := by decide +kernel
theorem dX9_mask_77 : decode cX9_mask 77 = .ok (.invokevirtual 148, 3) := by decide +kernel
theorem dX9_mask_80 : decode cX9_mask 80 = .ok (.iload_n 3, 1) := by decide +kernel
theorem dX9_mask_81 : decode cX9_mask 81 = .ok (.iload_n 2, 1) := by decide +kernel
theorem dX9_mask_82 : decode cX9_mask 82 = .ok (.iload 4, 2) := by decide +kernel
theorem dX9_mask_84 : decode cX9_mask 84 = .ok (.invokestatic 237, 3) := by decide +kernel
theorem dX9_mask_87 : decode cX9_mask 87 = .ok (.ireturn, 1) := by decide +kernel
theorem dX9_spoil_0 : decode cX9_spoil 0 = .ok (.aload_n 0, 1) := by decide +kernel
theorem dX9_spoil_1 : decode cX9_spoil 1 = .ok (.iload_n 1, 1) := by decide +kernel
theorem dX9_spoil_2 : decode cX9_spoil 2 = .ok (.iload_n 2, 1) := by decide +kernel
theorem dX9_spoil_3 : decode cX9_spoil 3 = .ok (.iload_n 3, 1) := by decide +kernel
theorem dX9_spoil_4 : decode cX9_spoil 4 = .ok (.invokevirtual 177, 3) := by decide +kernel
theorem dX9_spoil_7 : decode cX9_spoil 7 = .ok (.ifCond .eq 20, 3) := by decide +kernel
theorem dX9_spoil_10 : decode cX9_spoil 10 = .ok (.aload_n 0, 1) := by decide +kernel
theorem dX9_spoil_11 : decode cX9_spoil 11 = .ok (.getfield 19, 3) := by decide +kernel
theorem dX9_spoil_14 : decode cX9_spoil 14 = .ok (.iload 4, 2) := by decide +kernel
theorem dX9_spoil_16 : decode cX9_spoil 16 = .ok (.iload_n 2, 1) := by decide +kernel
theorem dX9_spoil_17 : decode cX9_spoil 17 = .ok (.invokevirtual 144, 3) := by decide +kernel
theorem dX9_spoil_20 : decode cX9_spoil 20 = .ok (.ifCond .eq 7, 3) := by decide +kernel
theorem dX9_spoil_23 : decode cX9_spoil 23 = .ok (.iconst 1, 1) := by decide +kernel
theorem dX9_spoil_24 : decode cX9_spoil 24 = .ok (.goto 4, 3) := by decide +kernel
theorem dX9_spoil_27 : decode cX9_spoil 27 = .ok (.iconst 0, 1) := by decide +kernel
theorem dX9_spoil_28 : decode cX9_spoil 28 = .ok (.istore 5, 2) := by decide +kernel
theorem dX9_spoil_30 : decode cX9_spoil 30 = .ok (.iload 5, 2) := by decide +kernel
theorem dX9_spoil_32 : decode cX9_spoil 32 = .ok (.iload_n 3, 1) := by decide +kernel
theorem dX9_spoil_33 : decode cX9_spoil 33 = .ok (.invokestatic 180, 3) := by decide +kernel
theorem dX9_spoil_36 : decode cX9_spoil 36 = .ok (.ifCond .eq 16, 3) := by decide +kernel
theorem dX9_spoil_39 : decode cX9_spoil 39 = .ok (.iload_n 3, 1) := by decide +kernel
theorem dX9_spoil_40 : decode cX9_spoil 40 = .ok (.iload 4, 2) := by decide +kernel
theorem dX9_spoil_42 : decode cX9_spoil 42 = .ok (.invokestatic 201, 3) := by decide +kernel
theorem dX9_spoil_45 : decode cX9_spoil 45 = .ok (.ifCond .eq 7, 3) := by decide +kernel
theorem dX9_spoil_48 : decode cX9_spoil 48 = .ok (.iconst 1, 1) := by decide +kernel
theorem dX9_spoil_49 : decode cX9_spoil 49 = .ok (.goto 4, 3) := by decide +kernel
theorem dX9_spoil_52 : decode cX9_spoil 52 = .ok (.iconst 0, 1) := by decide +kernel
theorem dX9_spoil_53 : decode cX9_spoil 53 = .ok (.aload_n 0, 1) := by decide +kernel
theorem dX9_spoil_54 : decode cX9_spoil 54 = .ok (.getfield 19, 3) := by decide +kernel
theorem dX9_spoil_57 : decode cX9_spoil 57 = .ok (.iload_n 1, 1) := by decide +kernel
theorem dX9_spoil_58 : decode cX9_spoil 58 = .ok (.iload_n 2, 1) := by decide +kernel
theorem dX9_spoil_59 : decode cX9_spoil 59 = .ok (.invokevirtual 171, 3) := by decide +kernel
theorem dX9_spoil_62 : decode cX9_spoil 62 = .ok (.iconst 1, 1) := by decide +kernel
theorem dX9_spoil_63 : decode cX9_spoil 63 = .ok (.invokestatic 72, 3) := by decide +kernel
theorem dX9_spoil_66 : decode cX9_spoil 66 = .ok (.istore 6, 2) := by decide +kernel
theorem dX9_spoil_68 : decode cX9_spoil 68 = .ok (.iload 6, 2) := by decide +kernel
theorem dX9_spoil_70 : decode cX9_spoil 70 = .ok (.ifCond .eq 8, 3) := by decide +kernel
theorem dX9_spoil_73 : decode cX9_spoil 73 = .ok (.iload 6, 2) := by decide +kernel
theorem dX9_spoil_75 : decode cX9_spoil 75 = .ok (.goto 23, 3) := by decide +kernel
theorem dX9_spoil_78 : decode cX9_spoil 78 = .ok (.aload_n 0, 1) := by decide +kernel
theorem dX9_spoil_79 : decode cX9_spoil 79 = .ok (.getfield 19, 3) := by decide +kernel
theorem dX9_spoil_82 : decode cX9_spoil 82 = .ok (.aload_n 0, 1) := by decide +kernel
theorem dX9_spoil_83 : decode cX9_spoil 83 = .ok (.getfield 19, 3) := by decide +kernel
theorem dX9_spoil_86 : decode cX9_spoil 86 = .ok (.iload_n 1, 1) := by decide +kernel
theorem dX9_spoil_87 : decode cX9_spoil 87 = .ok (.iload_n 2, 1) := by decide +kernel
theorem dX9_spoil_88 : decode cX9_spoil 88 = .ok (.invokevirtual 148, 3) := by decide +kernel
theorem dX9_spoil_91 : decode cX9_spoil 91 = .ok (.iload_n 3, 1) := by decide +kernel
theorem dX9_spoil_92 : decode cX9_spoil 92 = .ok (.iload 4, 2) := by decide +kernel
theorem dX9_spoil_94 : decode cX9_spoil 94 = .ok (.iconst 1, 1) := by decide +kernel
theorem dX9_spoil_95 : decode cX9_spoil 95 = .ok (.invokestatic 237, 3) := by decide +kernel
theorem dX9_spoil_98 : decode cX9_spoil 98 = .ok (.ireturn, 1) := by decide +kernel
theorem dX9_impostor_0 : decode cX9_impostor 0 = .ok (.aload_n 0, 1) := by decide +kernel
theorem dX9_impostor_1 : decode cX9_impostor 1 = .ok (.getfield 19, 3) := by decide +kernel
theorem dX9_impostor_4 : decode cX9_impostor 4 = .ok (.iload_n 1, 1) := by decide +kernel
theorem dX9_impostor_5 : decode cX9_impostor 5 = .ok (.iload_n 2, 1) := by decide +kernel
theorem dX9_impostor_6 : decode cX9_impostor 6 = .ok (.invokevirtual 144, 3) := by decide +kernel
theorem dX9_impostor_9 : decode cX9_impostor 9 = .ok (.ifCond .eq 19, 3) := by decide +kernel
theorem dX9_impostor_12 : decode cX9_impostor 12 = .ok (.aload_n 0, 1) := by decide +kernel
theorem dX9_impostor_13 : decode cX9_impostor 13 = .ok (.getfield 19, 3) := by decide +kernel
theorem dX9_impostor_16 : decode cX9_impostor 16 = .ok (.iload_n 1, 1) := by decide +kernel
theorem dX9_impostor_17 : decode cX9_impostor 17 = .ok (.iload_n 3, 1) := by decide +kernel
theorem dX9_impostor_18 : decode cX9_impostor 18 = .ok (.invokevirtual 144, 3) := by decide +kernel
theorem dX9_impostor_21 : decode cX9_impostor 21 = .ok (.ifCond .eq 7, 3) := by decide +kernel
theorem dX9_impostor_24 : decode cX9_impostor 24 = .ok (.iconst 1, 1) := by decide +kernel
theorem dX9_impostor_25 : decode cX9_impostor 25 = .ok (.goto 4, 3) := by decide +kernel
theorem dX9_impostor_28 : decode cX9_impostor 28 = .ok (.iconst 0, 1) := by decide +kernel
theorem dX9_impostor_29 : decode cX9_impostor 29 = .ok (.istore 6, 2) := by decide +kernel
theorem dX9_impostor_31 : decode cX9_impostor 31 = .ok (.iload 6, 2) := by decide +kernel
theorem dX9_impostor_33 : decode cX9_impostor 33 = .ok (.iload 4, 2) := by decide +kernel
theorem dX9_impostor_35 : decode cX9_impostor 35 = .ok (.invokestatic 208, 3) := by decide +kernel
theorem dX9_impostor_38 : decode cX9_impostor 38 = .ok (.ifCond .eq 17, 3) := by decide +kernel
theorem dX9_impostor_41 : decode cX9_impostor 41 = .ok (.iload 5, 2) := by decide +kernel
theorem dX9_impostor_43 : decode cX9_impostor 43 = .ok (.iconst 0, 1) := by decide +kernel
theorem dX9_impostor_44 : decode cX9_impostor 44 = .ok (.iconst 1, 1) := by decide +kernel
theorem dX9_impostor_45 : decode cX9_impostor 45 = .ok (.invokestatic 64, 3) := by decide +kernel
theorem dX9_impostor_48 : decode cX9_impostor 48 = .ok (.ifCond .eq 7, 3) := by decide +kernel
theorem dX9_impostor_51 : decode cX9_impostor 51 = .ok (.iconst 1, 1) := by decide +kernel
theorem dX9_impostor_52 : decode cX9_impostor 52 = .ok (.goto 4, 3) := by decide +kernel
theorem dX9_impostor_55 : decode cX9_impostor 55 = .ok (.iconst 0, 1) := by decide +kernel
theorem dX9_impostor_56 : decode cX9_impostor 56 = .ok (.aload_n 0, 1) := by decide +kernel
theorem dX9_impostor_57 : decode cX9_impostor 57 = .ok (.getfield 19, 3) := by decide +kernel
theorem dX9_impostor_60 : decode cX9_impostor 60 = .ok (.iload_n 1, 1) := by decide +kernel
theorem dX9_impostor_61 : decode cX9_impostor 61 = .ok (.iload_n 2, 1) := by decide +kernel
theorem dX9_impostor_62 : decode cX9_impostor 62 = .ok (.invokevirtual 171, 3) := by decide +kernel
theorem dX9_impostor_65 : decode cX9_impostor 65 = .ok (.iconst 1, 1) := by decide +kernel
theorem dX9_impostor_66 : decode cX9_impostor 66 = .ok (.invokestatic 72, 3) := by decide +kernel
theorem dX9_impostor_69 : decode cX9_impostor 69 = .ok (.istore 7, 2) := by decide +kernel
theorem dX9_impostor_71 : decode cX9_impostor 71 = .ok (.iload 7, 2) := by decide +kernel
theorem dX9_impostor_73 : decode cX9_impostor 73 = .ok (.ifCond .eq 6, 3) := by decide +kernel
theorem dX9_impostor_76 : decode cX9_impostor 76 = .ok (.iload 7, 2) := by decide +kernel
theorem dX9_impostor_78 : decode cX9_impostor 78 = .ok (.ireturn, 1) := by decide +kernel
theorem dX9_impostor_79 : decode cX9_impostor 79 = .ok (.aload_n 0, 1) := by decide +kernel
theorem dX9_impostor_80 : decode cX9_impostor 80 = .ok (.getfield 19, 3) := by decide +kernel
theorem dX9_impostor_83 : decode cX9_impostor 83 = .ok (.iload_n 1, 1) := by decide +kernel
theorem dX9_impostor_84 : decode cX9_impostor 84 = .ok (.iload_n 2, 1) := by decide +kernel
theorem dX9_impostor_85 : decode cX9_impostor 85 = .ok (.invokevirtual 148, 3) := by decide +kernel
theorem dX9_impostor_88 : decode cX9_impostor 88 = .ok (.istore 8, 2) := by decide +kernel
theorem dX9_impostor_90 : decode cX9_impostor 90 = .ok (.iload 5, 2) := by decide +kernel
theorem dX9_impostor_92 : decode cX9_impostor 92 = .ok (.ifCond .ne 19, 3) := by decide +kernel
theorem dX9_impostor_95 : decode cX9_impostor 95 = .ok (.aload_n 0, 1) := by decide +kernel
theorem dX9_impostor_96 : decode cX9_impostor 96 = .ok (.getfield 19, 3) := by decide +kernel
theorem dX9_impostor_99 : decode cX9_impostor 99 = .ok (.iload 8, 2) := by decide +kernel
theorem dX9_impostor_101 : decode cX9_impostor 101 = .ok (.iload_n 1, 1) := by decide +kernel
theorem dX9_impostor_102 : decode cX9_impostor 102 = .ok (.iload_n 3, 1) := by decide +kernel
theorem dX9_impostor_103 : decode cX9_impostor 103 = .ok (.iload 4, 2) := by decide +kernel
theorem dX9_impostor_105 : decode cX9_impostor 105 = .ok (.invokestatic 241, 3) := by decide +kernel
theorem dX9_impostor_108 : decode cX9_impostor 108 = .ok (.goto 16, 3) := by decide +kernel
theorem dX9_impostor_111 : decode cX9_impostor 111 = .ok (.aload_n 0, 1) := by decide +kernel
theorem dX9_impostor_112 : decode cX9_impostor 112 = .ok (.getfield 19, 3) := by decide +kernel
theorem dX9_impostor_115 : decode cX9_impostor 115 = .ok (.iload 8, 2) := by decide +kernel
theorem dX9_impostor_117 : decode cX9_impostor 117 = .ok (.iload_n 1, 1) := by decide +kernel
theorem dX9_impostor_118 : decode cX9_impostor 118 = .ok (.iload_n 3, 1) := by decide +kernel
theorem dX9_impostor_119 : decode cX9_impostor 119 = .ok (.iload 4, 2) := by decide +kernel
theorem dX9_impostor_121 : decode cX9_impostor 121 = .ok (.invokestatic 244, 3) := by decide +kernel
theorem dX9_impostor_124 : decode cX9_impostor 124 = .ok (.ireturn, 1) := by decide +kernel
theorem dX9_lost_0 : decode cX9_lost 0 = .ok (.aload_n 0, 1) := by decide +kernel
theorem dX9_lost_1 : decode cX9_lost 1 = .ok (.getfield 19, 3) := by decide +kernel
theorem dX9_lost_4 : decode cX9_lost 4 = .ok (.iload_n 1, 1) := by decide +kernel
theorem dX9_lost_5 : decode cX9_lost 5 = .ok (.invokevirtual 247, 3) := by decide +kernel
theorem dX9_lost_8 : decode cX9_lost 8 = .ok (.ireturn, 1) := by decide +kernel
theorem dX9_alike_0 : decode cX9_alike 0 = .ok (.iload_n 1, 1) := by decide +kernel
theorem dX9_alike_1 : decode cX9_alike 1 = .ok (.iconst 0, 1) := by decide +kernel
theorem dX9_alike_2 : decode cX9_alike 2 = .ok (.bipush 60, 2) := by decide +kernel
theorem dX9_alike_4 : decode cX9_alike 4 = .ok (.invokestatic 64, 3) := by decide +kernel
theorem dX9_alike_7 : decode cX9_alike 7 = .ok (.ifCond .ne 6, 3) := by decide +kernel
theorem dX9_alike_10 : decode cX9_alike 10 = .ok (.ldc 123, 2) := by decide +kernel
theorem dX9_alike_12 : decode cX9_alike 12 = .ok (.ireturn, 1) := by decide +kernel
theorem dX9_alike_13 : decode cX9_alike 13 = .ok (.aload_n 0, 1) := by decide +kernel
theorem dX9_alike_14 : decode cX9_alike 14 = .ok (.getfield 23, 3) := by decide +kernel
theorem dX9_alike_17 : decode cX9_alike 17 = .ok (.aload_n 0, 1) := by decide +kernel
theorem dX9_alike_18 : decode cX9_alike 18 = .ok (.getfield 19, 3) := by decide +kernel
theorem dX9_alike_21 : decode cX9_alike 21 = .ok (.invokevirtual 87, 3) := by decide +kernel
theorem dX9_alike_24 : decode cX9_alike 24 = .ok (.aload_n 0, 1) := by decide +kernel
theorem dX9_alike_25 : decode cX9_alike 25 = .ok (.getfield 23, 3) := by decide +kernel
theorem dX9_alike_28 : decode cX9_alike 28 = .ok (.iload_n 1, 1) := by decide +kernel
theorem dX9_alike_29 : decode cX9_alike 29 = .ok (.invokevirtual 158, 3) := by decide +kernel
theorem dX9_alike_32 : decode cX9_alike 32 = .ok (.aload_n 0, 1) := by decide +kernel
theorem dX9_alike_33 : decode cX9_alike 33 = .ok (.getfield 23, 3) := by decide +kernel
theorem dX9_alike_36 : decode cX9_alike 36 = .ok (.invokevirtual 250, 3) := by decide +kernel
theorem dX9_alike_39 : decode cX9_alike 39 = .ok (.ireturn, 1) := by decide +kernel
theorem dX9_see_0 : decode cX9_see 0 = .ok (.aload_n 0, 1) := by decide +kernel
theorem dX9_see_1 : decode cX9_see 1 = .ok (.iload_n 1, 1) := by decide +kernel
theorem dX9_see_2 : decode cX9_see 2 = .ok (.iload_n 2, 1) := by decide +kernel
theorem dX9_see_3 : decode cX9_see 3 = .ok (.iload_n 3, 1) := by decide +kernel
theorem dX9_see_4 : decode cX9_see 4 = .ok (.invokevirtual 177, 3) := by decide +kernel
theorem dX9_see_7 : decode cX9_see 7 = .ok (.ifCond .eq 19, 3) := by decide +kernel
theorem dX9_see_10 : decode cX9_see 10 = .ok (.aload_n 0, 1) := by decide +kernel
theorem dX9_see_11 : decode cX9_see 11 = .ok (.getfield 19, 3) := by decide +kernel
theorem dX9_see_14 : decode cX9_see 14 = .ok (.iload 4, 2) := by decide +kernel
theorem dX9_see_16 : decode cX9_see 16 = .ok (.invokevirtual 124, 3) := by decide +kernel
theorem dX9_see_19 : decode cX9_see 19 = .ok (.ifCond .eq 7, 3) := by decide +kernel
theorem dX9_see_22 : decode cX9_see 22 = .ok (.iconst 1, 1) := by decide +kernel
theorem dX9_see_23 : decode cX9_see 23 = .ok (.goto 4, 3) := by decide +kernel
theorem dX9_see_26 : decode cX9_see 26 = .ok (.iconst 0, 1) := by decide +kernel
theorem dX9_see_27 : decode cX9_see 27 = .ok (.istore 5, 2) := by decide +kernel
theorem dX9_see_29 : decode cX9_see 29 = .ok (.iload 5, 2) := by decide +kernel
theorem dX9_see_31 : decode cX9_see 31 = .ok (.iload_n 3, 1) := by decide +kernel
theorem dX9_see_32 : decode cX9_see 32 = .ok (.invokestatic 180, 3) := by decide +kernel
theorem dX9_see_35 : decode cX9_see 35 = .ok (.ifCond .eq 16, 3) := by decide +kernel
theorem dX9_see_38 : decode cX9_see 38 = .ok (.iload_n 3, 1) := by decide +kernel
theorem dX9_see_39 : decode cX9_see 39 = .ok (.iload 4, 2) := by decide +kernel
theorem dX9_see_41 : decode cX9_see 41 = .ok (.invokestatic 201, 3) := by decide +kernel
theorem dX9_see_44 : decode cX9_see 44 = .ok (.ifCond .eq 7, 3) := by decide +kernel
theorem dX9_see_47 : decode cX9_see 47 = .ok (.iconst 1, 1) := by decide +kernel
theorem dX9_see_48 : decode cX9_see 48 = .ok (.goto 4, 3) := by decide +kernel
theorem dX9_see_51 : decode cX9_see 51 = .ok (.iconst 0, 1) := by decide +kernel
theorem dX9_see_52 : decode cX9_see 52 = .ok (.aload_n 0, 1) := by decide +kernel
theorem dX9_see_53 : decode cX9_see 53 = .ok (.getfield 19, 3) := by decide +kernel
theorem dX9_see_56 : decode cX9_see 56 = .ok (.iload_n 1, 1) := by decide +kernel
theorem dX9_see_57 : decode cX9_see 57 = .ok (.iload_n 2, 1) := by decide +kernel
theorem dX9_see_58 : decode cX9_see 58 = .ok (.invokevirtual 171, 3) := by decide +kernel
theorem dX9_see_61 : decode cX9_see 61 = .ok (.aload_n 0, 1) := by decide +kernel
theorem dX9_see_62 : decode cX9_see 62 = .ok (.getfield 36, 3) := by decide +kernel
theorem dX9_see_65 : decode cX9_see 65 = .ok (.invokevirtual 253, 3) := by decide +kernel
theorem dX9_see_68 : decode cX9_see 68 = .ok (.invokestatic 72, 3) := by decide +kernel
theorem dX9_see_71 : decode cX9_see 71 = .ok (.istore 6, 2) := by decide +kernel
theorem dX9_see_73 : decode cX9_see 73 = .ok (.iload 6, 2) := by decide +kernel
theorem dX9_see_75 : decode cX9_see 75 = .ok (.ifCond .eq 8, 3) := by decide +kernel
theorem dX9_see_78 : decode cX9_see 78 = .ok (.iload 6, 2) := by decide +kernel
theorem dX9_see_80 : decode cX9_see 80 = .ok (.goto 15, 3) := by decide +kernel
theorem dX9_see_83 : decode cX9_see 83 = .ok (.aload_n 0, 1) := by decide +kernel
theorem dX9_see_84 : decode cX9_see 84 = .ok (.getfield 36, 3) := by decide +kernel
theorem dX9_see_87 : decode cX9_see 87 = .ok (.iload_n 1, 1) := by decide +kernel
theorem dX9_see_88 : decode cX9_see 88 = .ok (.iload_n 2, 1) := by decide +kernel
theorem dX9_see_89 : decode cX9_see 89 = .ok (.iload_n 3, 1) := by decide +kernel
theorem dX9_see_90 : decode cX9_see 90 = .ok (.iload 4, 2) := by decide +kernel
theorem dX9_see_92 : decode cX9_see 92 = .ok (.invokevirtual 254, 3) := by decide +kernel
theorem dX9_see_95 : decode cX9_see 95 = .ok (.ireturn, 1) := by decide +kernel
theorem dX9_honest_0 : decode cX9_honest 0 = .ok (.iconst 0, 1) := by decide +kernel
theorem dX9_honest_1 : decode cX9_honest 1 = .ok (.istore_n 1, 1) := by decide +kernel
theorem dX9_honest_2 : decode cX9_honest 2 = .ok (.iconst 0, 1) := by decide +kernel
theorem dX9_honest_3 : decode cX9_honest 3 = .ok (.istore_n 2, 1) := by decide +kernel
theorem dX9_honest_4 : decode cX9_honest 4 = .ok (.iload_n 2, 1) := by decide +kernel
theorem dX9_honest_5 : decode cX9_honest 5 = .ok (.aload_n 0, 1) := by decide +kernel
theorem dX9_honest_6 : decode cX9_honest 6 = .ok (.getfield 19, 3) := by decide +kernel
theorem dX9_honest_9 : decode cX9_honest 9 = .ok (.getfield 97, 3) := by decide +kernel
theorem dX9_honest_12 : decode cX9_honest 12 = .ok (.if_icmp .ge 30, 3) := by decide +kernel
theorem dX9_honest_15 : decode cX9_honest 15 = .ok (.aload_n 0, 1) := by decide +kernel
theorem dX9_honest_16 : decode cX9_honest 16 = .ok (.getfield 36, 3) := by decide +kernel
theorem dX9_honest_19 : decode cX9_honest 19 = .ok (.aload_n 0, 1) := by decide +kernel
theorem dX9_honest_20 : decode cX9_honest 20 = .ok (.getfield 19, 3) := by decide +kernel
theorem dX9_honest_23 : decode cX9_honest 23 = .ok (.iload_n 2, 1) := by decide +kernel
theorem dX9_honest_24 : decode cX9_honest 24 = .ok (.invokevirtual 258, 3) := by decide +kernel
theorem dX9_honest_27 : decode cX9_honest 27 = .ok (.ifCond .ne 9, 3) := by decide +kernel
theorem dX9_honest_30 : decode cX9_honest 30 = .ok (.iload_n 1, 1) := by decide +kernel
theorem dX9_honest_31 : decode cX9_honest 31 = .ok (.iconst 1, 1) := by decide +kernel
theorem dX9_honest_32 : decode cX9_honest 32 = .ok (.iload_n 2, 1) := by decide +kernel
theorem dX9_honest_33 : decode cX9_honest 33 = .ok (.ishl, 1) := by decide +kernel
theorem dX9_honest_34 : decode cX9_honest 34 = .ok (.ior, 1) := by decide +kernel
theorem dX9_honest_35 : decode cX9_honest 35 = .ok (.istore_n 1, 1) := by decide +kernel
theorem dX9_honest_36 : decode cX9_honest 36 = .ok (.iinc 2 1, 3) := by decide +kernel
theorem dX9_honest_39 : decode cX9_honest 39 = .ok (.goto (-35), 3) := by decide +kernel
theorem dX9_honest_42 : decode cX9_honest 42 = .ok (.iload_n 1, 1) := by decide +kernel
theorem dX9_honest_43 : decode cX9_honest 43 = .ok (.ireturn, 1) := by decide +kernel
theorem dX9_nods_0 : decode cX9_nods 0 = .ok (.aload_n 0, 1) := by decide +kernel
theorem dX9_nods_1 : decode cX9_nods 1 = .ok (.getfield 19, 3) := by decide +kernel
theorem dX9_nods_4 : decode cX9_nods 4 = .ok (.iload_n 1, 1) := by decide +kernel
theorem dX9_nods_5 : decode cX9_nods 5 = .ok (.invokevirtual 124, 3) := by decide +kernel
theorem dX9_nods_8 : decode cX9_nods 8 = .ok (.ifCond .eq 18, 3) := by decide +kernel
theorem dX9_nods_11 : decode cX9_nods 11 = .ok (.aload_n 0, 1) := by decide +kernel
theorem dX9_nods_12 : decode cX9_nods 12 = .ok (.getfield 36, 3) := by decide +kernel
theorem dX9_nods_15 : decode cX9_nods 15 = .ok (.aload_n 0, 1) := by decide +kernel
theorem dX9_nods_16 : decode cX9_nods 16 = .ok (.getfield 19, 3) := by decide +kernel
theorem dX9_nods_19 : decode cX9_nods 19 = .ok (.iload_n 1, 1) := by decide +kernel
theorem dX9_nods_20 : decode cX9_nods 20 = .ok (.invokevirtual 258, 3) := by decide +kernel
theorem dX9_nods_23 : decode cX9_nods 23 = .ok (.goto 5, 3) := by decide +kernel
theorem dX9_nods_26 : decode cX9_nods 26 = .ok (.ldc 128, 2) := by decide +kernel
theorem dX9_nods_28 : decode cX9_nods 28 = .ok (.ireturn, 1) := by decide +kernel
theorem dX9_showNext_0 : decode cX9_showNext 0 = .ok (.aload_n 0, 1) := by decide +kernel
theorem dX9_showNext_1 : decode cX9_showNext 1 = .ok (.getfield 19, 3) := by decide +kernel
theorem dX9_showNext_4 : decode cX9_showNext 4 = .ok (.iload_n 1, 1) := by decide +kernel
theorem dX9_showNext_5 : decode cX9_showNext 5 = .ok (.iload_n 2, 1) := by decide +kernel
theorem dX9_showNext_6 : decode cX9_showNext 6 = .ok (.invokevirtual 144, 3) := by decide +kernel
theorem dX9_showNext_9 : decode cX9_showNext 9 = .ok (.iconst 1, 1) := by decide +kernel
theorem dX9_showNext_10 : decode cX9_showNext 10 = .ok (.aload_n 0, 1) := by decide +kernel
theorem dX9_showNext_11 : decode cX9_showNext 11 = .ok (.getfield 19, 3) := by decide +kernel
theorem dX9_showNext_14 : decode cX9_showNext 14 = .ok (.iload_n 1, 1) := by decide +kernel
theorem dX9_showNext_15 : decode cX9_showNext 15 = .ok (.iload_n 2, 1) := by decide +kernel
theorem dX9_showNext_16 : decode cX9_showNext 16 = .ok (.invokevirtual 171, 3) := by decide +kernel
theorem dX9_showNext_19 : decode cX9_showNext 19 = .ok (.iconst 1, 1) := by decide +kernel
theorem dX9_showNext_20 : decode cX9_showNext 20 = .ok (.invokestatic 72, 3) := by decide +kernel
theorem dX9_showNext_23 : decode cX9_showNext 23 = .ok (.istore_n 3, 1) := by decide +kernel
theorem dX9_showNext_24 : decode cX9_showNext 24 = .ok (.iload_n 3, 1) := by decide +kernel
theorem dX9_showNext_25 : decode cX9_showNext 25 = .ok (.ifCond .eq 7, 3) := by decide +kernel
theorem dX9_showNext_28 : decode cX9_showNext 28 = .ok (.iload_n 3, 1) := by decide +kernel
theorem dX9_showNext_29 : decode cX9_showNext 29 = .ok (.goto 20, 3) := by decide +kernel
theorem dX9_showNext_32 : decode cX9_showNext 32 = .ok (.aload_n 0, 1) := by decide +kernel
theorem dX9_showNext_33 : decode cX9_showNext 33 = .ok (.getfield 19, 3) := by decide +kernel
theorem dX9_showNext_36 : decode cX9_showNext 36 = .ok (.aload_n 0, 1) := by decide +kernel
theorem dX9_showNext_37 : decode cX9_showNext 37 = .ok (.getfield 19, 3) := by decide +kernel
theorem dX9_showNext_40 : decode cX9_showNext 40 = .ok (.iload_n 1, 1) := by decide +kernel
theorem dX9_showNext_41 : decode cX9_showNext 41 = .ok (.iload_n 2, 1) := by decide +kernel
theorem dX9_showNext_42 : decode cX9_showNext 42 = .ok (.invokevirtual 148, 3) := by decide +kernel
theorem dX9_showNext_45 : decode cX9_showNext 45 = .ok (.iload_n 1, 1) := by decide +kernel
theorem dX9_showNext_46 : decode cX9_showNext 46 = .ok (.invokestatic 262, 3) := by decide +kernel
theorem dX9_showNext_49 : decode cX9_showNext 49 = .ok (.ireturn, 1) := by decide +kernel
theorem dX9_write_0 : decode cX9_write 0 = .ok (.aload_n 0, 1) := by decide +kernel
theorem dX9_write_1 : decode cX9_write 1 = .ok (.getfield 19, 3) := by decide +kernel
theorem dX9_write_4 : decode cX9_write 4 = .ok (.iload_n 1, 1) := by decide +kernel
theorem dX9_write_5 : decode cX9_write 5 = .ok (.invokevirtual 124, 3) := by decide +kernel
theorem dX9_write_8 : decode cX9_write 8 = .ok (.ifCond .eq 18, 3) := by decide +kernel
theorem dX9_write_11 : decode cX9_write 11 = .ok (.aload_n 0, 1) := by decide +kernel
theorem dX9_write_12 : decode cX9_write 12 = .ok (.getfield 19, 3) := by decide +kernel
theorem dX9_write_15 : decode cX9_write 15 = .ok (.iload_n 2, 1) := by decide +kernel
theorem dX9_write_16 : decode cX9_write 16 = .ok (.invokevirtual 124, 3) := by decide +kernel
theorem dX9_write_19 : decode cX9_write 19 = .ok (.ifCond .eq 7, 3) := by decide +kernel
theorem dX9_write_22 : decode cX9_write 22 = .ok (.iconst 1, 1) := by decide +kernel
theorem dX9_write_23 : decode cX9_write 23 = .ok (.goto 4, 3) := by decide +kernel
theorem dX9_write_26 : decode cX9_write 26 = .ok (.iconst 0, 1) := by decide +kernel
theorem dX9_write_27 : decode cX9_write 27 = .ok (.iconst 1, 1) := by decide +kernel
theorem dX9_write_28 : decode cX9_write 28 = .ok (.iconst 1, 1) := by decide +kernel
theorem dX9_write_29 : decode cX9_write 29 = .ok (.aload_n 0, 1) := by decide +kernel
theorem dX9_write_30 : decode cX9_write 30 = .ok (.getfield 43, 3) := by decide +kernel
theorem dX9_write_33 : decode cX9_write 33 = .ok (.invokevirtual 265, 3) := by decide +kernel
theorem dX9_write_36 : decode cX9_write 36 = .ok (.invokestatic 72, 3) := by decide +kernel
theorem dX9_write_39 : decode cX9_write 39 = .ok (.istore_n 3, 1) := by decide +kernel
theorem dX9_write_40 : decode cX9_write 40 = .ok (.iload_n 3, 1) := by decide +kernel
theorem dX9_write_41 : decode cX9_write 41 = .ok (.ifCond .eq 7, 3) := by decide +kernel
theorem dX9_write_44 : decode cX9_write 44 = .ok (.iload_n 3, 1) := by decide +kernel
theorem dX9_write_45 : decode cX9_write 45 = .ok (.goto 12, 3) := by decide +kernel
theorem dX9_write_48 : decode cX9_write 48 = .ok (.aload_n 0, 1) := by decide +kernel
theorem dX9_write_49 : decode cX9_write 49 = .ok (.getfield 43, 3) := by decide +kernel
theorem dX9_write_52 : decode cX9_write 52 = .ok (.iload_n 1, 1) := by decide +kernel
theorem dX9_write_53 : decode cX9_write 53 = .ok (.iload_n 2, 1) := by decide +kernel
theorem dX9_write_54 : decode cX9_write 54 = .ok (.invokevirtual 266, 3) := by decide +kernel
theorem dX9_write_57 : decode cX9_write 57 = .ok (.ireturn, 1) := by decide +kernel
theorem dX9_tear_0 : decode cX9_tear 0 = .ok (.aload_n 0, 1) := by decide +kernel
theorem dX9_tear_1 : decode cX9_tear 1 = .ok (.getfield 36, 3) := by decide +kernel
theorem dX9_tear_4 : decode cX9_tear 4 = .ok (.getfield 120, 3) := by decide +kernel
theorem dX9_tear_7 : decode cX9_tear 7 = .ok (.aload_n 0, 1) := by decide +kernel
theorem dX9_tear_8 : decode cX9_tear 8 = .ok (.getfield 43, 3) := by decide +kernel
theorem dX9_tear_11 : decode cX9_tear 11 = .ok (.getfield 121, 3) := by decide +kernel
theorem dX9_tear_14 : decode cX9_tear 14 = .ok (.iadd, 1) := by decide +kernel
theorem dX9_tear_15 : decode cX9_tear 15 = .ok (.istore_n 1, 1) := by decide +kernel
theorem dX9_tear_16 : decode cX9_tear 16 = .ok (.aload_n 0, 1) := by decide +kernel
theorem dX9_tear_17 : decode cX9_tear 17 = .ok (.getfield 36, 3) := by decide +kernel
theorem dX9_tear_20 : decode cX9_tear 20 = .ok (.invokevirtual 92, 3) := by decide +kernel
theorem dX9_tear_23 : decode cX9_tear 23 = .ok (.aload_n 0, 1) := by decide +kernel
theorem dX9_tear_24 : decode cX9_tear 24 = .ok (.getfield 43, 3) := by decide +kernel
theorem dX9_tear_27 : decode cX9_tear 27 = .ok (.invokevirtual 93, 3) := by decide +kernel
theorem dX9_tear_30 : decode cX9_tear 30 = .ok (.iload_n 1, 1) := by decide +kernel
theorem dX9_tear_31 : decode cX9_tear 31 = .ok (.ireturn, 1) := by decide +kernel
theorem dX9_judge_0 : decode cX9_judge 0 = .ok (.aload_n 0, 1) := by decide +kernel
theorem dX9_judge_1 : decode cX9_judge 1 = .ok (.getfield 43, 3) := by decide +kernel
theorem dX9_judge_4 : decode cX9_judge 4 = .ok (.aload_n 0, 1) := by decide +kernel
theorem dX9_judge_5 : decode cX9_judge 5 = .ok (.getfield 19, 3) := by decide +kernel
theorem dX9_judge_8 : decode cX9_judge 8 = .ok (.invokevirtual 268, 3) := by decide +kernel
theorem dX9_judge_11 : decode cX9_judge 11 = .ok (.ireturn, 1) := by decide +kernel
theorem dX9_seed_0 : decode cX9_seed 0 = .ok (.iload_n 1, 1) := by decide +kernel
theorem dX9_seed_1 : decode cX9_seed 1 = .ok (.ifCond .ge 6, 3) := by decide +kernel
theorem dX9_seed_4 : decode cX9_seed 4 = .ok (.ldc 123, 2) := by decide +kernel
theorem dX9_seed_6 : decode cX9_seed 6 = .ok (.ireturn, 1) := by decide +kernel
theorem dX9_seed_7 : decode cX9_seed 7 = .ok (.aload_n 0, 1) := by decide +kernel
theorem dX9_seed_8 : decode cX9_seed 8 = .ok (.getfield 50, 3) := by decide +kernel
theorem dX9_seed_11 : decode cX9_seed 11 = .ok (.getfield 271, 3) := by decide +kernel
theorem dX9_seed_14 : decode cX9_seed 14 = .ok (.istore_n 2, 1) := by decide +kernel
theorem dX9_seed_15 : decode cX9_seed 15 = .ok (.aload_n 0, 1) := by decide +kernel
theorem dX9_seed_16 : decode cX9_seed 16 = .ok (.getfield 50, 3) := by decide +kernel
theorem dX9_seed_19 : decode cX9_seed 19 = .ok (.iload_n 1, 1) := by decide +kernel
theorem dX9_seed_20 : decode cX9_seed 20 = .ok (.putfield 271, 3) := by decide +kernel
theorem dX9_seed_23 : decode cX9_seed 23 = .ok (.iload_n 2, 1) := by decide +kernel
theorem dX9_seed_24 : decode cX9_seed 24 = .ok (.ireturn, 1) := by decide +kernel
theorem dX9_keep_0 : decode cX9_keep 0 = .ok (.aload_n 0, 1) := by decide +kernel
theorem dX9_keep_1 : decode cX9_keep 1 = .ok (.iload_n 1, 1) := by decide +kernel
theorem dX9_keep_2 : decode cX9_keep 2 = .ok (.invokevirtual 274, 3) := by decide +kernel
theorem dX9_keep_5 : decode cX9_keep 5 = .ok (.astore_n 2, 1) := by decide +kernel
theorem dX9_keep_6 : decode cX9_keep 6 = .ok (.aload_n 2, 1) := by decide +kernel
theorem dX9_keep_7 : decode cX9_keep 7 = .ok (.ifnonnull 6, 3) := by decide +kernel
theorem dX9_keep_10 : decode cX9_keep 10 = .ok (.ldc 128, 2) := by decide +kernel
theorem dX9_keep_12 : decode cX9_keep 12 = .ok (.ireturn, 1) := by decide +kernel
theorem dX9_keep_13 : decode cX9_keep 13 = .ok (.aload_n 2, 1) := by decide +kernel
theorem dX9_keep_14 : decode cX9_keep 14 = .ok (.aload_n 0, 1) := by decide +kernel
theorem dX9_keep_15 : decode cX9_keep 15 = .ok (.getfield 19, 3) := by decide +kernel
theorem dX9_keep_18 : decode cX9_keep 18 = .ok (.aload_n 0, 1) := by decide +kernel
theorem dX9_keep_19 : decode cX9_keep 19 = .ok (.getfield 50, 3) := by decide +kernel
theorem dX9_keep_22 : decode cX9_keep 22 = .ok (.getfield 271, 3) := by decide +kernel
theorem dX9_keep_25 : decode cX9_keep 25 = .ok (.invokevirtual 278, 3) := by decide +kernel
theorem dX9_keep_28 : decode cX9_keep 28 = .ok (.aload_n 0, 1) := by decide +kernel
theorem dX9_keep_29 : decode cX9_keep 29 = .ok (.getfield 29, 3) := by decide +kernel
theorem dX9_keep_32 : decode cX9_keep 32 = .ok (.invokevirtual 91, 3) := by decide +kernel
theorem dX9_keep_35 : decode cX9_keep 35 = .ok (.iconst 1, 1) := by decide +kernel
theorem dX9_keep_36 : decode cX9_keep 36 = .ok (.ireturn, 1) := by decide +kernel
theorem dX9_goBack_0 : decode cX9_goBack 0 = .ok (.aload_n 0, 1) := by decide +kernel
theorem dX9_goBack_1 : decode cX9_goBack 1 = .ok (.iload_n 1, 1) := by decide +kernel
theorem dX9_goBack_2 : decode cX9_goBack 2 = .ok (.invokevirtual 274, 3) := by decide +kernel
theorem dX9_goBack_5 : decode cX9_goBack 5 = .ok (.astore_n 2, 1) := by decide +kernel
theorem dX9_goBack_6 : decode cX9_goBack 6 = .ok (.aload_n 2, 1) := by decide +kernel
theorem dX9_goBack_7 : decode cX9_goBack 7 = .ok (.ifnonnull 6, 3) := by decide +kernel
theorem dX9_goBack_10 : decode cX9_goBack 10 = .ok (.ldc 128, 2) := by decide +kernel
theorem dX9_goBack_12 : decode cX9_goBack 12 = .ok (.ireturn, 1) := by decide +kernel
theorem dX9_goBack_13 : decode cX9_goBack 13 = .ok (.aload_n 2, 1) := by decide +kernel
theorem dX9_goBack_14 : decode cX9_goBack 14 = .ok (.getfield 282, 3) := by decide +kernel
theorem dX9_goBack_17 : decode cX9_goBack 17 = .ok (.ifCond .ne 6, 3) := by decide +kernel
theorem dX9_goBack_20 : decode cX9_goBack 20 = .ok (.ldc 200, 2) := by decide +kernel
theorem dX9_goBack_22 : decode cX9_goBack 22 = .ok (.ireturn, 1) := by decide +kernel
theorem dX9_goBack_23 : decode cX9_goBack 23 = .ok (.aload_n 0, 1) := by decide +kernel
theorem dX9_goBack_24 : decode cX9_goBack 24 = .ok (.getfield 19, 3) := by decide +kernel
theorem dX9_goBack_27 : decode cX9_goBack 27 = .ok (.aload_n 2, 1) := by decide +kernel
theorem dX9_goBack_28 : decode cX9_goBack 28 = .ok (.getfield 286, 3) := by decide +kernel
theorem dX9_goBack_31 : decode cX9_goBack 31 = .ok (.invokevirtual 87, 3) := by decide +kernel
theorem dX9_goBack_34 : decode cX9_goBack 34 = .ok (.aload_n 0, 1) := by decide +kernel
theorem dX9_goBack_35 : decode cX9_goBack 35 = .ok (.getfield 50, 3) := by decide +kernel
theorem dX9_goBack_38 : decode cX9_goBack 38 = .ok (.aload_n 2, 1) := by decide +kernel
theorem dX9_goBack_39 : decode cX9_goBack 39 = .ok (.getfield 289, 3) := by decide +kernel
theorem dX9_goBack_42 : decode cX9_goBack 42 = .ok (.putfield 271, 3) := by decide +kernel
theorem dX9_goBack_45 : decode cX9_goBack 45 = .ok (.aload_n 0, 1) := by decide +kernel
theorem dX9_goBack_46 : decode cX9_goBack 46 = .ok (.getfield 29, 3) := by decide +kernel
theorem dX9_goBack_49 : decode cX9_goBack 49 = .ok (.invokevirtual 91, 3) := by decide +kernel
theorem dX9_goBack_52 : decode cX9_goBack 52 = .ok (.iconst 1, 1) := by decide +kernel
theorem dX9_goBack_53 : decode cX9_goBack 53 = .ok (.ireturn, 1) := by decide +kernel
theorem dX9_refusal_0 : decode cX9_refusal 0 = .ok (.iload_n 0, 1) := by decide +kernel
theorem dX9_refusal_1 : decode cX9_refusal 1 = .ok (.ifCond .ne 6, 3) := by decide +kernel
theorem dX9_refusal_4 : decode cX9_refusal 4 = .ok (.ldc 128, 2) := by decide +kernel
theorem dX9_refusal_6 : decode cX9_refusal 6 = .ok (.ireturn, 1) := by decide +kernel
theorem dX9_refusal_7 : decode cX9_refusal 7 = .ok (.iload_n 1, 1) := by decide +kernel
theorem dX9_refusal_8 : decode cX9_refusal 8 = .ok (.ifCond .ne 6, 3) := by decide +kernel
theorem dX9_refusal_11 : decode cX9_refusal 11 = .ok (.ldc 123, 2) := by decide +kernel
theorem dX9_refusal_13 : decode cX9_refusal 13 = .ok (.ireturn, 1) := by decide +kernel
theorem dX9_refusal_14 : decode cX9_refusal 14 = .ok (.iload_n 2, 1) := by decide +kernel
theorem dX9_refusal_15 : decode cX9_refusal 15 = .ok (.ifCond .ne 6, 3) := by decide +kernel
theorem dX9_refusal_18 : decode cX9_refusal 18 = .ok (.ldc 200, 2) := by decide +kernel
theorem dX9_refusal_20 : decode cX9_refusal 20 = .ok (.ireturn, 1) := by decide +kernel
theorem dX9_refusal_21 : decode cX9_refusal 21 = .ok (.iload_n 3, 1) := by decide +kernel
theorem dX9_refusal_22 : decode cX9_refusal 22 = .ok (.ifCond .eq 7, 3) := by decide +kernel
theorem dX9_refusal_25 : decode cX9_refusal 25 = .ok (.iconst 0, 1) := by decide +kernel
theorem dX9_refusal_26 : decode cX9_refusal 26 = .ok (.goto 6, 3) := by decide +kernel
theorem dX9_refusal_29 : decode cX9_refusal 29 = .ok (.ldc_w 290, 3) := by decide +kernel
theorem dX9_refusal_32 : decode cX9_refusal 32 = .ok (.ireturn, 1) := by decide +kernel
theorem dX9_refusalOfYears_0 : decode cX9_refusalOfYears 0 = .ok (.iconst 1, 1) := by decide +kernel
theorem dX9_refusalOfYears_1 : decode cX9_refusalOfYears 1 = .ok (.iload_n 1, 1) := by decide +kernel
theorem dX9_refusalOfYears_2 : decode cX9_refusalOfYears 2 = .ok (.iconst 1, 1) := by decide +kernel
theorem dX9_refusalOfYears_3 : decode cX9_refusalOfYears 3 = .ok (.bipush 60, 2) := by decide +kernel
theorem dX9_refusalOfYears_5 : decode cX9_refusalOfYears 5 = .ok (.invokestatic 64, 3) := by decide +kernel
theorem dX9_refusalOfYears_8 : decode cX9_refusalOfYears 8 = .ok (.aload_n 0, 1) := by decide +kernel
theorem dX9_refusalOfYears_9 : decode cX9_refusalOfYears 9 = .ok (.getfield 19, 3) := by decide +kernel
theorem dX9_refusalOfYears_12 : decode cX9_refusalOfYears 12 = .ok (.getfield 97, 3) := by decide +kernel
theorem dX9_refusalOfYears_15 : decode cX9_refusalOfYears 15 = .ok (.ifCond .le 7, 3) := by decide +kernel
theorem dX9_refusalOfYears_18 : decode cX9_refusalOfYears 18 = .ok (.iconst 1, 1) := by decide +kernel
theorem dX9_refusalOfYears_19 : decode cX9_refusalOfYears 19 = .ok (.goto 4, 3) := by decide +kernel
theorem dX9_refusalOfYears_22 : decode cX9_refusalOfYears 22 = .ok (.iconst 0, 1) := by decide +kernel
theorem dX9_refusalOfYears_23 : decode cX9_refusalOfYears 23 = .ok (.aload_n 0, 1) := by decide +kernel
theorem dX9_refusalOfYears_24 : decode cX9_refusalOfYears 24 = .ok (.getfield 19, 3) := by decide +kernel
theorem dX9_refusalOfYears_27 : decode cX9_refusalOfYears 27 = .ok (.getfield 107, 3) := by decide +kernel
theorem dX9_refusalOfYears_30 : decode cX9_refusalOfYears 30 = .ok (.sipush 9000, 3) := by decide +kernel
theorem dX9_refusalOfYears_33 : decode cX9_refusalOfYears 33 = .ok (.if_icmp .gt 7, 3) := by decide +kernel
theorem dX9_refusalOfYears_36 : decode cX9_refusalOfYears 36 = .ok (.iconst 1, 1) := by decide +kernel
theorem dX9_refusalOfYears_37 : decode cX9_refusalOfYears 37 = .ok (.goto 4, 3) := by decide +kernel
theorem dX9_refusalOfYears_40 : decode cX9_refusalOfYears 40 = .ok (.iconst 0, 1) := by decide +kernel
theorem dX9_refusalOfYears_41 : decode cX9_refusalOfYears 41 = .ok (.invokestatic 72, 3) := by decide +kernel
theorem dX9_refusalOfYears_44 : decode cX9_refusalOfYears 44 = .ok (.ireturn, 1) := by decide +kernel
theorem dX9_isAsked_0 : decode cX9_isAsked 0 = .ok (.aload_n 0, 1) := by decide +kernel
theorem dX9_isAsked_1 : decode cX9_isAsked 1 = .ok (.getfield 19, 3) := by decide +kernel
theorem dX9_isAsked_4 : decode cX9_isAsked 4 = .ok (.iload_n 1, 1) := by decide +kernel
theorem dX9_isAsked_5 : decode cX9_isAsked 5 = .ok (.iload_n 2, 1) := by decide +kernel
theorem dX9_isAsked_6 : decode cX9_isAsked 6 = .ok (.invokevirtual 144, 3) := by decide +kernel
theorem dX9_isAsked_9 : decode cX9_isAsked 9 = .ok (.ifCond .eq 26, 3) := by decide +kernel
theorem dX9_isAsked_12 : decode cX9_isAsked 12 = .ok (.aload_n 0, 1) := by decide +kernel
theorem dX9_isAsked_13 : decode cX9_isAsked 13 = .ok (.getfield 19, 3) := by decide +kernel
theorem dX9_isAsked_16 : decode cX9_isAsked 16 = .ok (.iload_n 3, 1) := by decide +kernel
theorem dX9_isAsked_17 : decode cX9_isAsked 17 = .ok (.invokevirtual 219, 3) := by decide +kernel
theorem dX9_isAsked_20 : decode cX9_isAsked 20 = .ok (.ifCond .eq 15, 3) := by decide +kernel
theorem dX9_isAsked_23 : decode cX9_isAsked 23 = .ok (.iload_n 3, 1) := by decide +kernel
theorem dX9_isAsked_24 : decode cX9_isAsked 24 = .ok (.iload_n 1, 1) := by decide +kernel
theorem dX9_isAsked_25 : decode cX9_isAsked 25 = .ok (.invokestatic 201, 3) := by decide +kernel
theorem dX9_isAsked_28 : decode cX9_isAsked 28 = .ok (.ifCond .ne 7, 3) := by decide +kernel
theorem dX9_isAsked_31 : decode cX9_isAsked 31 = .ok (.iconst 1, 1) := by decide +kernel
theorem dX9_isAsked_32 : decode cX9_isAsked 32 = .ok (.goto 4, 3) := by decide +kernel
theorem dX9_isAsked_35 : decode cX9_isAsked 35 = .ok (.iconst 0, 1) := by decide +kernel
theorem dX9_isAsked_36 : decode cX9_isAsked 36 = .ok (.ireturn, 1) := by decide +kernel
theorem dX9_isLongEnough_0 : decode cX9_isLongEnough 0 = .ok (.iload_n 0, 1) := by decide +kernel
theorem dX9_isLongEnough_1 : decode cX9_isLongEnough 1 = .ok (.invokestatic 291, 3) := by decide +kernel
theorem dX9_isLongEnough_4 : decode cX9_isLongEnough 4 = .ok (.iconst 2, 1) := by decide +kernel
theorem dX9_isLongEnough_5 : decode cX9_isLongEnough 5 = .ok (.if_icmp .lt 7, 3) := by decide +kernel
theorem dX9_isLongEnough_8 : decode cX9_isLongEnough 8 = .ok (.iconst 1, 1) := by decide +kernel
theorem dX9_isLongEnough_9 : decode cX9_isLongEnough 9 = .ok (.goto 4, 3) := by decide +kernel
theorem dX9_isLongEnough_12 : decode cX9_isLongEnough 12 = .ok (.iconst 0, 1) := by decide +kernel
theorem dX9_isLongEnough_13 : decode cX9_isLongEnough 13 = .ok (.ireturn, 1) := by decide +kernel
theorem dX9_isRowLength_0 : decode cX9_isRowLength 0 = .ok (.iload_n 0, 1) := by decide +kernel
theorem dX9_isRowLength_1 : decode cX9_isRowLength 1 = .ok (.iconst 2, 1) := by decide +kernel
theorem dX9_isRowLength_2 : decode cX9_isRowLength 2 = .ok (.bipush 8, 2) := by decide +kernel
theorem dX9_isRowLength_4 : decode cX9_isRowLength 4 = .ok (.invokestatic 64, 3) := by decide +kernel
theorem dX9_isRowLength_7 : decode cX9_isRowLength 7 = .ok (.ireturn, 1) := by decide +kernel
theorem dX9_isWithin_0 : decode cX9_isWithin 0 = .ok (.iload_n 0, 1) := by decide +kernel
theorem dX9_isWithin_1 : decode cX9_isWithin 1 = .ok (.iload_n 1, 1) := by decide +kernel
theorem dX9_isWithin_2 : decode cX9_isWithin 2 = .ok (.if_icmp .lt 12, 3) := by decide +kernel
theorem dX9_isWithin_5 : decode cX9_isWithin 5 = .ok (.iload_n 0, 1) := by decide +kernel
theorem dX9_isWithin_6 : decode cX9_isWithin 6 = .ok (.iload_n 2, 1) := by decide +kernel
theorem dX9_isWithin_7 : decode cX9_isWithin 7 = .ok (.if_icmp .gt 7, 3) := by decide +kernel
theorem dX9_isWithin_10 : decode cX9_isWithin 10 = .ok (.iconst 1, 1) := by decide +kernel
theorem dX9_isWithin_11 : decode cX9_isWithin 11 = .ok (.goto 4, 3) := by decide +kernel
theorem dX9_isWithin_14 : decode cX9_isWithin 14 = .ok (.iconst 0, 1) := by decide +kernel
theorem dX9_isWithin_15 : decode cX9_isWithin 15 = .ok (.ireturn, 1) := by decide +kernel
theorem dX9_hasBit_0 : decode cX9_hasBit 0 = .ok (.iload_n 1, 1) := by decide +kernel
theorem dX9_hasBit_1 : decode cX9_hasBit 1 = .ok (.iconst 0, 1) := by decide +kernel
theorem dX9_hasBit_2 : decode cX9_hasBit 2 = .ok (.bipush 7, 2) := by decide +kernel
theorem dX9_hasBit_4 : decode cX9_hasBit 4 = .ok (.invokestatic 64, 3) := by decide +kernel
theorem dX9_hasBit_7 : decode cX9_hasBit 7 = .ok (.ifCond .eq 16, 3) := by decide +kernel
theorem dX9_hasBit_10 : decode cX9_hasBit 10 = .ok (.iload_n 0, 1) := by decide +kernel
theorem dX9_hasBit_11 : decode cX9_hasBit 11 = .ok (.iload_n 1, 1) := by decide +kernel
theorem dX9_hasBit_12 : decode cX9_hasBit 12 = .ok (.ishr, 1) := by decide +kernel
theorem dX9_hasBit_13 : decode cX9_hasBit 13 = .ok (.iconst 1, 1) := by decide +kernel
theorem dX9_hasBit_14 : decode cX9_hasBit 14 = .ok (.iand, 1) := by decide +kernel
theorem dX9_hasBit_15 : decode cX9_hasBit 15 = .ok (.iconst 1, 1) := by decide +kernel
theorem dX9_hasBit_16 : decode cX9_hasBit 16 = .ok (.if_icmp .ne 7, 3) := by decide +kernel
theorem dX9_hasBit_19 : decode cX9_hasBit 19 = .ok (.iconst 1, 1) := by decide +kernel
theorem dX9_hasBit_20 : decode cX9_hasBit 20 = .ok (.goto 4, 3) := by decide +kernel
theorem dX9_hasBit_23 : decode cX9_hasBit 23 = .ok (.iconst 0, 1) := by decide +kernel
theorem dX9_hasBit_24 : decode cX9_hasBit 24 = .ok (.ireturn, 1) := by decide +kernel
theorem dX9_meetByDraws_0 : decode cX9_meetByDraws 0 = .ok (.aload_n 0, 1) := by decide +kernel
theorem dX9_meetByDraws_1 : decode cX9_meetByDraws 1 = .ok (.getfield 50, 3) := by decide +kernel
theorem dX9_meetByDraws_4 : decode cX9_meetByDraws 4 = .ok (.aload_n 0, 1) := by decide +kernel
theorem dX9_meetByDraws_5 : decode cX9_meetByDraws 5 = .ok (.getfield 19, 3) := by decide +kernel
theorem dX9_meetByDraws_8 : decode cX9_meetByDraws 8 = .ok (.getfield 97, 3) := by decide +kernel
theorem dX9_meetByDraws_11 : decode cX9_meetByDraws 11 = .ok (.invokevirtual 296, 3) := by decide +kernel
theorem dX9_meetByDraws_14 : decode cX9_meetByDraws 14 = .ok (.istore_n 1, 1) := by decide +kernel
theorem dX9_meetByDraws_15 : decode cX9_meetByDraws 15 = .ok (.aload_n 0, 1) := by decide +kernel
theorem dX9_meetByDraws_16 : decode cX9_meetByDraws 16 = .ok (.getfield 50, 3) := by decide +kernel
theorem dX9_meetByDraws_19 : decode cX9_meetByDraws 19 = .ok (.aload_n 0, 1) := by decide +kernel
theorem dX9_meetByDraws_20 : decode cX9_meetByDraws 20 = .ok (.getfield 19, 3) := by decide +kernel
theorem dX9_meetByDraws_23 : decode cX9_meetByDraws 23 = .ok (.getfield 97, 3) := by decide +kernel
theorem dX9_meetByDraws_26 : decode cX9_meetByDraws 26 = .ok (.invokevirtual 296, 3) := by decide +kernel
theorem dX9_meetByDraws_29 : decode cX9_meetByDraws 29 = .ok (.istore_n 2, 1) := by decide +kernel
theorem dX9_meetByDraws_30 : decode cX9_meetByDraws 30 = .ok (.iload_n 1, 1) := by decide +kernel
theorem dX9_meetByDraws_31 : decode cX9_meetByDraws 31 = .ok (.iload_n 2, 1) := by decide +kernel
theorem dX9_meetByDraws_32 : decode cX9_meetByDraws 32 = .ok (.if_icmp .eq 12, 3) := by decide +kernel
theorem dX9_meetByDraws_35 : decode cX9_meetByDraws 35 = .ok (.aload_n 0, 1) := by decide +kernel
theorem dX9_meetByDraws_36 : decode cX9_meetByDraws 36 = .ok (.getfield 19, 3) := by decide +kernel
theorem dX9_meetByDraws_39 : decode cX9_meetByDraws 39 = .ok (.iload_n 1, 1) := by decide +kernel
theorem dX9_meetByDraws_40 : decode cX9_meetByDraws 40 = .ok (.iload_n 2, 1) := by decide +kernel
theorem dX9_meetByDraws_41 : decode cX9_meetByDraws 41 = .ok (.invokevirtual 162, 3) := by decide +kernel
theorem dX9_meetByDraws_44 : decode cX9_meetByDraws 44 = .ok (.return_, 1) := by decide +kernel
theorem dX9_imageOf_0 : decode cX9_imageOf 0 = .ok (.iload_n 1, 1) := by decide +kernel
theorem dX9_imageOf_1 : decode cX9_imageOf 1 = .ok (.ifCond .ne 8, 3) := by decide +kernel
theorem dX9_imageOf_4 : decode cX9_imageOf 4 = .ok (.aload_n 0, 1) := by decide +kernel
theorem dX9_imageOf_5 : decode cX9_imageOf 5 = .ok (.getfield 57, 3) := by decide +kernel
theorem dX9_imageOf_8 : decode cX9_imageOf 8 = .ok (.areturn, 1) := by decide +kernel
theorem dX9_imageOf_9 : decode cX9_imageOf 9 = .ok (.iload_n 1, 1) := by decide +kernel
theorem dX9_imageOf_10 : decode cX9_imageOf 10 = .ok (.iconst 1, 1) := by decide +kernel
theorem dX9_imageOf_11 : decode cX9_imageOf 11 = .ok (.if_icmp .ne 10, 3) := by decide +kernel
theorem dX9_imageOf_14 : decode cX9_imageOf 14 = .ok (.aload_n 0, 1) := by decide +kernel
theorem dX9_imageOf_15 : decode cX9_imageOf 15 = .ok (.getfield 61, 3) := by decide +kernel
theorem dX9_imageOf_18 : decode cX9_imageOf 18 = .ok (.goto 4, 3) := by decide +kernel
theorem dX9_imageOf_21 : decode cX9_imageOf 21 = .ok (.aconst_null, 1) := by decide +kernel
theorem dX9_imageOf_22 : decode cX9_imageOf 22 = .ok (.areturn, 1) := by decide +kernel
theorem dJ6_bitCount_0f7a4_0 : decode cJ6_bitCount_0f7a4 0 = .ok (.iload_n 0, 1) := by decide +kernel
theorem dJ6_bitCount_0f7a4_1 : decode cJ6_bitCount_0f7a4 1 = .ok (.iload_n 0, 1) := by decide +kernel
theorem dJ6_bitCount_0f7a4_2 : decode cJ6_bitCount_0f7a4 2 = .ok (.iconst 1, 1) := by decide +kernel
theorem dJ6_bitCount_0f7a4_3 : decode cJ6_bitCount_0f7a4 3 = .ok (.iushr, 1) := by decide +kernel
theorem dJ6_bitCount_0f7a4_4 : decode cJ6_bitCount_0f7a4 4 = .ok (.ldc_w 265, 3) := by decide +kernel
theorem dJ6_bitCount_0f7a4_7 : decode cJ6_bitCount_0f7a4 7 = .ok (.iand, 1) := by decide +kernel
theorem dJ6_bitCount_0f7a4_8 : decode cJ6_bitCount_0f7a4 8 = .ok (.isub, 1) := by decide +kernel
theorem dJ6_bitCount_0f7a4_9 : decode cJ6_bitCount_0f7a4 9 = .ok (.istore_n 0, 1) := by decide +kernel
theorem dJ6_bitCount_0f7a4_10 : decode cJ6_bitCount_0f7a4 10 = .ok (.iload_n 0, 1) := by decide +kernel
theorem dJ6_bitCount_0f7a4_11 : decode cJ6_bitCount_0f7a4 11 = .ok (.ldc_w 266, 3) := by decide +kernel
theorem dJ6_bitCount_0f7a4_14 : decode cJ6_bitCount_0f7a4 14 = .ok (.iand, 1) := by decide +kernel
theorem dJ6_bitCount_0f7a4_15 : decode cJ6_bitCount_0f7a4 15 = .ok (.iload_n 0, 1) := by decide +kernel
theorem dJ6_bitCount_0f7a4_16 : decode cJ6_bitCount_0f7a4 16 = .ok (.iconst 2, 1) := by decide +kernel
theorem dJ6_bitCount_0f7a4_17 : decode cJ6_bitCount_0f7a4 17 = .ok (.iushr, 1) := by decide +kernel
theorem dJ6_bitCount_0f7a4_18 : decode cJ6_bitCount_0f7a4 18 = .ok (.ldc_w 266, 3) := by decide +kernel
theorem dJ6_bitCount_0f7a4_21 : decode cJ6_bitCount_0f7a4 21 = .ok (.iand, 1) := by decide +kernel
theorem dJ6_bitCount_0f7a4_22 : decode cJ6_bitCount_0f7a4 22 = .ok (.iadd, 1) := by decide +kernel
theorem dJ6_bitCount_0f7a4_23 : decode cJ6_bitCount_0f7a4 23 = .ok (.istore_n 0, 1) := by decide +kernel
theorem dJ6_bitCount_0f7a4_24 : decode cJ6_bitCount_0f7a4 24 = .ok (.iload_n 0, 1) := by decide +kernel
theorem dJ6_bitCount_0f7a4_25 : decode cJ6_bitCount_0f7a4 25 = .ok (.iload_n 0, 1) := by decide +kernel
theorem dJ6_bitCount_0f7a4_26 : decode cJ6_bitCount_0f7a4 26 = .ok (.iconst 4, 1) := by decide +kernel
theorem dJ6_bitCount_0f7a4_27 : decode cJ6_bitCount_0f7a4 27 = .ok (.iushr, 1) := by decide +kernel
theorem dJ6_bitCount_0f7a4_28 : decode cJ6_bitCount_0f7a4 28 = .ok (.iadd, 1) := by decide +kernel
theorem dJ6_bitCount_0f7a4_29 : decode cJ6_bitCount_0f7a4 29 = .ok (.ldc_w 267, 3) := by decide +kernel
theorem dJ6_bitCount_0f7a4_32 : decode cJ6_bitCount_0f7a4 32 = .ok (.iand, 1) := by decide +kernel
theorem dJ6_bitCount_0f7a4_33 : decode cJ6_bitCount_0f7a4 33 = .ok (.istore_n 0, 1) := by decide +kernel
theorem dJ6_bitCount_0f7a4_34 : decode cJ6_bitCount_0f7a4 34 = .ok (.iload_n 0, 1) := by decide +kernel
theorem dJ6_bitCount_0f7a4_35 : decode cJ6_bitCount_0f7a4 35 = .ok (.iload_n 0, 1) := by decide +kernel
theorem dJ6_bitCount_0f7a4_36 : decode cJ6_bitCount_0f7a4 36 = .ok (.bipush 8, 2) := by decide +kernel
theorem dJ6_bitCount_0f7a4_38 : decode cJ6_bitCount_0f7a4 38 = .ok (.iushr, 1) := by decide +kernel
theorem dJ6_bitCount_0f7a4_39 : decode cJ6_bitCount_0f7a4 39 = .ok (.iadd, 1) := by decide +kernel
theorem dJ6_bitCount_0f7a4_40 : decode cJ6_bitCount_0f7a4 40 = .ok (.istore_n 0, 1) := by decide +kernel
theorem dJ6_bitCount_0f7a4_41 : decode cJ6_bitCount_0f7a4 41 = .ok (.iload_n 0, 1) := by decide +kernel
theorem dJ6_bitCount_0f7a4_42 : decode cJ6_bitCount_0f7a4 42 = .ok (.iload_n 0, 1) := by decide +kernel
theorem dJ6_bitCount_0f7a4_43 : decode cJ6_bitCount_0f7a4 43 = .ok (.bipush 16, 2) := by decide +kernel
theorem dJ6_bitCount_0f7a4_45 : decode cJ6_bitCount_0f7a4 45 = .ok (.iushr, 1) := by decide +kernel
theorem dJ6_bitCount_0f7a4_46 : decode cJ6_bitCount_0f7a4 46 = .ok (.iadd, 1) := by decide +kernel
theorem dJ6_bitCount_0f7a4_47 : decode cJ6_bitCount_0f7a4 47 = .ok (.istore_n 0, 1) := by decide +kernel
theorem dJ6_bitCount_0f7a4_48 : decode cJ6_bitCount_0f7a4 48 = .ok (.iload_n 0, 1) := by decide +kernel
theorem dJ6_bitCount_0f7a4_49 : decode cJ6_bitCount_0f7a4 49 = .ok (.bipush 63, 2) := by decide +kernel
theorem dJ6_bitCount_0f7a4_51 : decode cJ6_bitCount_0f7a4 51 = .ok (.iand, 1) := by decide +kernel
theorem dJ6_bitCount_0f7a4_52 : decode cJ6_bitCount_0f7a4 52 = .ok (.ireturn, 1) := by decide +kernel
theorem dJ9_max_7cf53_0 : decode cJ9_max_7cf53 0 = .ok (.iload_n 0, 1) := by decide +kernel
theorem dJ9_max_7cf53_1 : decode cJ9_max_7cf53 1 = .ok (.iload_n 1, 1) := by decide +kernel
theorem dJ9_max_7cf53_2 : decode cJ9_max_7cf53 2 = .ok (.if_icmp .lt 7, 3) := by decide +kernel
theorem dJ9_max_7cf53_5 : decode cJ9_max_7cf53 5 = .ok (.iload_n 0, 1) := by decide +kernel
theorem dJ9_max_7cf53_6 : decode cJ9_max_7cf53 6 = .ok (.goto 4, 3) := by decide +kernel
theorem dJ9_max_7cf53_9 : decode cJ9_max_7cf53 9 = .ok (.iload_n 1, 1) := by decide +kernel
theorem dJ9_max_7cf53_10 : decode cJ9_max_7cf53 10 = .ok (.ireturn, 1) := by decide +kernel
theorem dJ9_min_7cf53_0 : decode cJ9_min_7cf53 0 = .ok (.iload_n 0, 1) := by decide +kernel
theorem dJ9_min_7cf53_1 : decode cJ9_min_7cf53 1 = .ok (.iload_n 1, 1) := by decide +kernel
theorem dJ9_min_7cf53_2 : decode cJ9_min_7cf53 2 = .ok (.if_icmp .gt 7, 3) := by decide +kernel
theorem dJ9_min_7cf53_5 : decode cJ9_min_7cf53 5 = .ok (.iload_n 0, 1) := by decide +kernel
theorem dJ9_min_7cf53_6 : decode cJ9_min_7cf53 6 = .ok (.goto 4, 3) := by decide +kernel
theorem dJ9_min_7cf53_9 : decode cJ9_min_7cf53 9 = .ok (.iload_n 1, 1) := by decide +kernel
theorem dJ9_min_7cf53_10 : decode cJ9_min_7cf53 10 = .ok (.ireturn, 1) := by decide +kernel
theorem dJ7_fill_53178_0 : decode cJ7_fill_53178 0 = .ok (.iconst 0, 1) := by decide +kernel
theorem dJ7_fill_53178_1 : decode cJ7_fill_53178 1 = .ok (.istore_n 2, 1) := by decide +kernel
theorem dJ7_fill_53178_2 : decode cJ7_fill_53178 2 = .ok (.aload_n 0, 1) := by decide +kernel
theorem dJ7_fill_53178_3 : decode cJ7_fill_53178 3 = .ok (.arraylength, 1) := by decide +kernel
theorem dJ7_fill_53178_4 : decode cJ7_fill_53178 4 = .ok (.istore_n 3, 1) := by decide +kernel
theorem dJ7_fill_53178_5 : decode cJ7_fill_53178 5 = .ok (.iload_n 2, 1) := by decide +kernel
theorem dJ7_fill_53178_6 : decode cJ7_fill_53178 6 = .ok (.iload_n 3, 1) := by decide +kernel
theorem dJ7_fill_53178_7 : decode cJ7_fill_53178 7 = .ok (.if_icmp .ge 13, 3) := by decide +kernel
theorem dJ7_fill_53178_10 : decode cJ7_fill_53178 10 = .ok (.aload_n 0, 1) := by decide +kernel
theorem dJ7_fill_53178_11 : decode cJ7_fill_53178 11 = .ok (.iload_n 2, 1) := by decide +kernel
theorem dJ7_fill_53178_12 : decode cJ7_fill_53178 12 = .ok (.iload_n 1, 1) := by decide +kernel
theorem dJ7_fill_53178_13 : decode cJ7_fill_53178 13 = .ok (.iastore, 1) := by decide +kernel
theorem dJ7_fill_53178_14 : decode cJ7_fill_53178 14 = .ok (.iinc 2 1, 3) := by decide +kernel
theorem dJ7_fill_53178_17 : decode cJ7_fill_53178 17 = .ok (.goto (-12), 3) := by decide +kernel
theorem dJ7_fill_53178_20 : decode cJ7_fill_53178 20 = .ok (.return_, 1) := by decide +kernel
