theorem dX0_init_0 : decode cX0_init 0 = .ok (.aload_n 0, 1) := by decide +kernel
theorem dX0_init_1 : decode cX0_init 1 = .ok (.invokespecial 3, 3) := by decide +kernel
theorem dX0_init_4 : decode cX0_init 4 = .ok (.aload_n 0, 1) := by decide +kernel
theorem dX0_init_5 : decode cX0_init 5 = .ok (.iconst 0, 1) := by decide +kernel
theorem dX0_init_6 : decode cX0_init 6 = .ok (.putfield 9, 3) := by decide +kernel
theorem dX0_init_9 : decode cX0_init 9 = .ok (.aload_n 0, 1) := by decide +kernel
theorem dX0_init_10 : decode cX0_init 10 = .ok (.iload_n 1, 1) := by decide +kernel
theorem dX0_init_11 : decode cX0_init 11 = .ok (.putfield 15, 3) := by decide +kernel
theorem dX0_init_14 : decode cX0_init 14 = .ok (.aload_n 0, 1) := by decide +kernel
theorem dX0_init_15 : decode cX0_init 15 = .ok (.iload_n 2, 1) := by decide +kernel
theorem dX0_init_16 : decode cX0_init 16 = .ok (.putfield 18, 3) := by decide +kernel
theorem dX0_init_19 : decode cX0_init 19 = .ok (.aload_n 0, 1) := by decide +kernel
theorem dX0_init_20 : decode cX0_init 20 = .ok (.iload_n 3, 1) := by decide +kernel
theorem dX0_init_21 : decode cX0_init 21 = .ok (.putfield 21, 3) := by decide +kernel
theorem dX0_init_24 : decode cX0_init 24 = .ok (.aload_n 0, 1) := by decide +kernel
theorem dX0_init_25 : decode cX0_init 25 = .ok (.iload 4, 2) := by decide +kernel
theorem dX0_init_27 : decode cX0_init 27 = .ok (.putfield 24, 3) := by decide +kernel
theorem dX0_init_30 : decode cX0_init 30 = .ok (.return_, 1) := by decide +kernel
theorem dX0_close_0 : decode cX0_close 0 = .ok (.aload_n 0, 1) := by decide +kernel
theorem dX0_close_1 : decode cX0_close 1 = .ok (.iconst 1, 1) := by decide +kernel
theorem dX0_close_2 : decode cX0_close 2 = .ok (.putfield 9, 3) := by decide +kernel
theorem dX0_close_5 : decode cX0_close 5 = .ok (.aload_n 0, 1) := by decide +kernel
theorem dX0_close_6 : decode cX0_close 6 = .ok (.lload_n 1, 1) := by decide +kernel
theorem dX0_close_7 : decode cX0_close 7 = .ok (.putfield 27, 3) := by decide +kernel
theorem dX0_close_10 : decode cX0_close 10 = .ok (.return_, 1) := by decide +kernel
theorem dX0_seal_0 : decode cX0_seal 0 = .ok (.ldc2_w 31, 3) := by decide +kernel
theorem dX0_seal_3 : decode cX0_seal 3 = .ok (.lstore_n 1, 1) := by decide +kernel
theorem dX0_seal_4 : decode cX0_seal 4 = .ok (.ldc2_w 33, 3) := by decide +kernel
theorem dX0_seal_7 : decode cX0_seal 7 = .ok (.lload_n 1, 1) := by decide +kernel
theorem dX0_seal_8 : decode cX0_seal 8 = .ok (.lmul, 1) := by decide +kernel
theorem dX0_seal_9 : decode cX0_seal 9 = .ok (.aload_n 0, 1) := by decide +kernel
theorem dX0_seal_10 : decode cX0_seal 10 = .ok (.getfield 18, 3) := by decide +kernel
theorem dX0_seal_13 : decode cX0_seal 13 = .ok (.i2l, 1) := by decide +kernel
theorem dX0_seal_14 : decode cX0_seal 14 = .ok (.ladd, 1) := by decide +kernel
theorem dX0_seal_15 : decode cX0_seal 15 = .ok (.lstore_n 1, 1) := by decide +kernel
theorem dX0_seal_16 : decode cX0_seal 16 = .ok (.ldc2_w 33, 3) := by decide +kernel
theorem dX0_seal_19 : decode cX0_seal 19 = .ok (.lload_n 1, 1) := by decide +kernel
theorem dX0_seal_20 : decode cX0_seal 20 = .ok (.lmul, 1) := by decide +kernel
theorem dX0_seal_21 : decode cX0_seal 21 = .ok (.aload_n 0, 1) := by decide +kernel
theorem dX0_seal_22 : decode cX0_seal 22 = .ok (.getfield 21, 3) := by decide +kernel
theorem dX0_seal_25 : decode cX0_seal 25 = .ok (.i2l, 1) := by decide +kernel
theorem dX0_seal_26 : decode cX0_seal 26 = .ok (.ladd, 1) := by decide +kernel
theorem dX0_seal_27 : decode cX0_seal 27 = .ok (.lstore_n 1, 1) := by decide +kernel
theorem dX0_seal_28 : decode cX0_seal 28 = .ok (.ldc2_w 33, 3) := by decide +kernel
theorem dX0_seal_31 : decode cX0_seal 31 = .ok (.lload_n 1, 1) := by decide +kernel
theorem dX0_seal_32 : decode cX0_seal 32 = .ok (.lmul, 1) := by decide +kernel
theorem dX0_seal_33 : decode cX0_seal 33 = .ok (.aload_n 0, 1) := by decide +kernel
theorem dX0_seal_34 : decode cX0_seal 34 = .ok (.getfield 24, 3) := by decide +kernel
theorem dX0_seal_37 : decode cX0_seal 37 = .ok (.i2l, 1) := by decide +kernel
theorem dX0_seal_38 : decode cX0_seal 38 = .ok (.ladd, 1) := by decide +kernel
theorem dX0_seal_39 : decode cX0_seal 39 = .ok (.lstore_n 1, 1) := by decide +kernel
theorem dX0_seal_40 : decode cX0_seal 40 = .ok (.ldc2_w 33, 3) := by decide +kernel
theorem dX0_seal_43 : decode cX0_seal 43 = .ok (.lload_n 1, 1) := by decide +kernel
theorem dX0_seal_44 : decode cX0_seal 44 = .ok (.lmul, 1) := by decide +kernel
theorem dX0_seal_45 : decode cX0_seal 45 = .ok (.aload_n 0, 1) := by decide +kernel
theorem dX0_seal_46 : decode cX0_seal 46 = .ok (.getfield 35, 3) := by decide +kernel
theorem dX0_seal_49 : decode cX0_seal 49 = .ok (.i2l, 1) := by decide +kernel
theorem dX0_seal_50 : decode cX0_seal 50 = .ok (.ladd, 1) := by decide +kernel
theorem dX0_seal_51 : decode cX0_seal 51 = .ok (.lstore_n 1, 1) := by decide +kernel
theorem dX0_seal_52 : decode cX0_seal 52 = .ok (.ldc2_w 33, 3) := by decide +kernel
theorem dX0_seal_55 : decode cX0_seal 55 = .ok (.lload_n 1, 1) := by decide +kernel
theorem dX0_seal_56 : decode cX0_seal 56 = .ok (.lmul, 1) := by decide +kernel
theorem dX0_seal_57 : decode cX0_seal 57 = .ok (.aload_n 0, 1) := by decide +kernel
theorem dX0_seal_58 : decode cX0_seal 58 = .ok (.getfield 38, 3) := by decide +kernel
theorem dX0_seal_61 : decode cX0_seal 61 = .ok (.i2l, 1) := by decide +kernel
theorem dX0_seal_62 : decode cX0_seal 62 = .ok (.ladd, 1) := by decide +kernel
theorem dX0_seal_63 : decode cX0_seal 63 = .ok (.lstore_n 1, 1) := by decide +kernel
theorem dX0_seal_64 : decode cX0_seal 64 = .ok (.ldc2_w 33, 3) := by decide +kernel
theorem dX0_seal_67 : decode cX0_seal 67 = .ok (.lload_n 1, 1) := by decide +kernel
theorem dX0_seal_68 : decode cX0_seal 68 = .ok (.lmul, 1) := by decide +kernel
theorem dX0_seal_69 : decode cX0_seal 69 = .ok (.aload_n 0, 1) := by decide +kernel
theorem dX0_seal_70 : decode cX0_seal 70 = .ok (.getfield 27, 3) := by decide +kernel
theorem dX0_seal_73 : decode cX0_seal 73 = .ok (.ladd, 1) := by decide +kernel
theorem dX0_seal_74 : decode cX0_seal 74 = .ok (.lreturn, 1) := by decide +kernel
theorem dX1_init_0 : decode cX1_init 0 = .ok (.aload_n 0, 1) := by decide +kernel
theorem dX1_init_1 : decode cX1_init 1 = .ok (.invokespecial 3, 3) := by decide +kernel
theorem dX1_init_4 : decode cX1_init 4 = .ok (.aload_n 0, 1) := by decide +kernel
theorem dX1_init_5 : decode cX1_init 5 = .ok (.iconst 1, 1) := by decide +kernel
theorem dX1_init_6 : decode cX1_init 6 = .ok (.putfield 9, 3) := by decide +kernel
theorem dX1_init_9 : decode cX1_init 9 = .ok (.aload_n 0, 1) := by decide +kernel
theorem dX1_init_10 : decode cX1_init 10 = .ok (.iconst 1, 1) := by decide +kernel
theorem dX1_init_11 : decode cX1_init 11 = .ok (.putfield 15, 3) := by decide +kernel
theorem dX1_init_14 : decode cX1_init 14 = .ok (.aload_n 0, 1) := by decide +kernel
theorem dX1_init_15 : decode cX1_init 15 = .ok (.iconst 1, 1) := by decide +kernel
theorem dX1_init_16 : decode cX1_init 16 = .ok (.putfield 19, 3) := by decide +kernel
theorem dX1_init_19 : decode cX1_init 19 = .ok (.aload_n 0, 1) := by decide +kernel
theorem dX1_init_20 : decode cX1_init 20 = .ok (.iconst 1, 1) := by decide +kernel
theorem dX1_init_21 : decode cX1_init 21 = .ok (.putfield 22, 3) := by decide +kernel
theorem dX1_init_24 : decode cX1_init 24 = .ok (.aload_n 0, 1) := by decide +kernel
theorem dX1_init_25 : decode cX1_init 25 = .ok (.bipush 16, 2) := by decide +kernel
theorem dX1_init_27 : decode cX1_init 27 = .ok (.anewarray 25, 3) := by decide +kernel
theorem dX1_init_30 : decode cX1_init 30 = .ok (.putfield 27, 3) := by decide +kernel
theorem dX1_init_33 : decode cX1_init 33 = .ok (.aload_n 0, 1) := by decide +kernel
theorem dX1_init_34 : decode cX1_init 34 = .ok (.iload_n 1, 1) := by decide +kernel
theorem dX1_init_35 : decode cX1_init 35 = .ok (.putfield 31, 3) := by decide +kernel
theorem dX1_init_38 : decode cX1_init 38 = .ok (.return_, 1) := by decide +kernel
theorem dX1_lowestOpen_0 : decode cX1_lowestOpen 0 = .ok (.aload_n 0, 1) := by decide +kernel
theorem dX1_lowestOpen_1 : decode cX1_lowestOpen 1 = .ok (.getfield 22, 3) := by decide +kernel
theorem dX1_lowestOpen_4 : decode cX1_lowestOpen 4 = .ok (.aload_n 0, 1) := by decide +kernel
theorem dX1_lowestOpen_5 : decode cX1_lowestOpen 5 = .ok (.getfield 19, 3) := by decide +kernel
theorem dX1_lowestOpen_8 : decode cX1_lowestOpen 8 = .ok (.if_icmp .ge 34, 3) := by decide +kernel
theorem dX1_lowestOpen_11 : decode cX1_lowestOpen 11 = .ok (.aload_n 0, 1) := by decide +kernel
theorem dX1_lowestOpen_12 : decode cX1_lowestOpen 12 = .ok (.getfield 27, 3) := by decide +kernel
theorem dX1_lowestOpen_15 : decode cX1_lowestOpen 15 = .ok (.aload_n 0, 1) := by decide +kernel
theorem dX1_lowestOpen_16 : decode cX1_lowestOpen 16 = .ok (.getfield 22, 3) := by decide +kernel
theorem dX1_lowestOpen_19 : decode cX1_lowestOpen 19 = .ok (.bipush 15, 2) := by decide +kernel
theorem dX1_lowestOpen_21 : decode cX1_lowestOpen 21 = .ok (.iand, 1) := by decide +kernel
theorem dX1_lowestOpen_22 : decode cX1_lowestOpen 22 = .ok (.aaload, 1) := by decide +kernel
theorem dX1_lowestOpen_23 : decode cX1_lowestOpen 23 = .ok (.invokestatic 34, 3) := by decide +kernel
theorem dX1_lowestOpen_26 : decode cX1_lowestOpen 26 = .ok (.ifCond .ne 16, 3) := by decide +kernel
theorem dX1_lowestOpen_29 : decode cX1_lowestOpen 29 = .ok (.aload_n 0, 1) := by decide +kernel
theorem dX1_lowestOpen_30 : decode cX1_lowestOpen 30 = .ok (.dup, 1) := by decide +kernel
theorem dX1_lowestOpen_31 : decode cX1_lowestOpen 31 = .ok (.getfield 22, 3) := by decide +kernel
theorem dX1_lowestOpen_34 : decode cX1_lowestOpen 34 = .ok (.iconst 1, 1) := by decide +kernel
theorem dX1_lowestOpen_35 : decode cX1_lowestOpen 35 = .ok (.iadd, 1) := by decide +kernel
theorem dX1_lowestOpen_36 : decode cX1_lowestOpen 36 = .ok (.putfield 22, 3) := by decide +kernel
theorem dX1_lowestOpen_39 : decode cX1_lowestOpen 39 = .ok (.goto (-39), 3) := by decide +kernel
theorem dX1_lowestOpen_42 : decode cX1_lowestOpen 42 = .ok (.aload_n 0, 1) := by decide +kernel
theorem dX1_lowestOpen_43 : decode cX1_lowestOpen 43 = .ok (.getfield 22, 3) := by decide +kernel
theorem dX1_lowestOpen_46 : decode cX1_lowestOpen 46 = .ok (.ireturn, 1) := by decide +kernel
theorem dX1_keep_0 : decode cX1_keep 0 = .ok (.aload_n 0, 1) := by decide +kernel
theorem dX1_keep_1 : decode cX1_keep 1 = .ok (.getfield 27, 3) := by decide +kernel
theorem dX1_keep_4 : decode cX1_keep 4 = .ok (.aload_n 0, 1) := by decide +kernel
theorem dX1_keep_5 : decode cX1_keep 5 = .ok (.getfield 19, 3) := by decide +kernel
theorem dX1_keep_8 : decode cX1_keep 8 = .ok (.bipush 15, 2) := by decide +kernel
theorem dX1_keep_10 : decode cX1_keep 10 = .ok (.iand, 1) := by decide +kernel
theorem dX1_keep_11 : decode cX1_keep 11 = .ok (.aload_n 1, 1) := by decide +kernel
theorem dX1_keep_12 : decode cX1_keep 12 = .ok (.aastore, 1) := by decide +kernel
theorem dX1_keep_13 : decode cX1_keep 13 = .ok (.aload_n 0, 1) := by decide +kernel
theorem dX1_keep_14 : decode cX1_keep 14 = .ok (.dup, 1) := by decide +kernel
theorem dX1_keep_15 : decode cX1_keep 15 = .ok (.getfield 19, 3) := by decide +kernel
theorem dX1_keep_18 : decode cX1_keep 18 = .ok (.iconst 1, 1) := by decide +kernel
theorem dX1_keep_19 : decode cX1_keep 19 = .ok (.iadd, 1) := by decide +kernel
theorem dX1_keep_20 : decode cX1_keep 20 = .ok (.putfield 19, 3) := by decide +kernel
theorem dX1_keep_23 : decode cX1_keep 23 = .ok (.return_, 1) := by decide +kernel
theorem dX1_beginLife_0 : decode cX1_beginLife 0 = .ok (.iconst 0, 1) := by decide +kernel
theorem dX1_beginLife_1 : decode cX1_beginLife 1 = .ok (.istore_n 1, 1) := by decide +kernel
theorem dX1_beginLife_2 : decode cX1_beginLife 2 = .ok (.iload_n 1, 1) := by decide +kernel
theorem dX1_beginLife_3 : decode cX1_beginLife 3 = .ok (.bipush 16, 2) := by decide +kernel
theorem dX1_beginLife_5 : decode cX1_beginLife 5 = .ok (.if_icmp .ge 32, 3) := by decide +kernel
theorem dX1_beginLife_8 : decode cX1_beginLife 8 = .ok (.aload_n 0, 1) := by decide +kernel
theorem dX1_beginLife_9 : decode cX1_beginLife 9 = .ok (.getfield 27, 3) := by decide +kernel
theorem dX1_beginLife_12 : decode cX1_beginLife 12 = .ok (.iload_n 1, 1) := by decide +kernel
theorem dX1_beginLife_13 : decode cX1_beginLife 13 = .ok (.aaload, 1) := by decide +kernel
theorem dX1_beginLife_14 : decode cX1_beginLife 14 = .ok (.astore_n 2, 1) := by decide +kernel
theorem dX1_beginLife_15 : decode cX1_beginLife 15 = .ok (.aload_n 2, 1) := by decide +kernel
theorem dX1_beginLife_16 : decode cX1_beginLife 16 = .ok (.ifnull 15, 3) := by decide +kernel
theorem dX1_beginLife_19 : decode cX1_beginLife 19 = .ok (.aload_n 2, 1) := by decide +kernel
theorem dX1_beginLife_20 : decode cX1_beginLife 20 = .ok (.invokestatic 34, 3) := by decide +kernel
theorem dX1_beginLife_23 : decode cX1_beginLife 23 = .ok (.ifCond .eq 8, 3) := by decide +kernel
theorem dX1_beginLife_26 : decode cX1_beginLife 26 = .ok (.aload_n 2, 1) := by decide +kernel
theorem dX1_beginLife_27 : decode cX1_beginLife 27 = .ok (.iconst 2, 1) := by decide +kernel
theorem dX1_beginLife_28 : decode cX1_beginLife 28 = .ok (.putfield 38, 3) := by decide +kernel
theorem dX1_beginLife_31 : decode cX1_beginLife 31 = .ok (.iinc 1 1, 3) := by decide +kernel
theorem dX1_beginLife_34 : decode cX1_beginLife 34 = .ok (.goto (-32), 3) := by decide +kernel
theorem dX1_beginLife_37 : decode cX1_beginLife 37 = .ok (.aload_n 0, 1) := by decide +kernel
theorem dX1_beginLife_38 : decode cX1_beginLife 38 = .ok (.dup, 1) := by decide +kernel
theorem dX1_beginLife_39 : decode cX1_beginLife 39 = .ok (.getfield 15, 3) := by decide +kernel
theorem dX1_beginLife_42 : decode cX1_beginLife 42 = .ok (.iconst 1, 1) := by decide +kernel
theorem dX1_beginLife_43 : decode cX1_beginLife 43 = .ok (.iadd, 1) := by decide +kernel
theorem dX1_beginLife_44 : decode cX1_beginLife 44 = .ok (.putfield 15, 3) := by decide +kernel
theorem dX1_beginLife_47 : decode cX1_beginLife 47 = .ok (.aload_n 0, 1) := by decide +kernel
theorem dX1_beginLife_48 : decode cX1_beginLife 48 = .ok (.iconst 1, 1) := by decide +kernel
theorem dX1_beginLife_49 : decode cX1_beginLife 49 = .ok (.putfield 19, 3) := by decide +kernel
theorem dX1_beginLife_52 : decode cX1_beginLife 52 = .ok (.aload_n 0, 1) := by decide +kernel
theorem dX1_beginLife_53 : decode cX1_beginLife 53 = .ok (.iconst 1, 1) := by decide +kernel
theorem dX1_beginLife_54 : decode cX1_beginLife 54 = .ok (.putfield 22, 3) := by decide +kernel
theorem dX1_beginLife_57 : decode cX1_beginLife 57 = .ok (.return_, 1) := by decide +kernel
theorem dX1_isOpen_0 : decode cX1_isOpen 0 = .ok (.aload_n 0, 1) := by decide +kernel
theorem dX1_isOpen_1 : decode cX1_isOpen 1 = .ok (.ifnull 14, 3) := by decide +kernel
theorem dX1_isOpen_4 : decode cX1_isOpen 4 = .ok (.aload_n 0, 1) := by decide +kernel
theorem dX1_isOpen_5 : decode cX1_isOpen 5 = .ok (.getfield 38, 3) := by decide +kernel
theorem dX1_isOpen_8 : decode cX1_isOpen 8 = .ok (.ifCond .ne 7, 3) := by decide +kernel
theorem dX1_isOpen_11 : decode cX1_isOpen 11 = .ok (.iconst 1, 1) := by decide +kernel
theorem dX1_isOpen_12 : decode cX1_isOpen 12 = .ok (.goto 4, 3) := by decide +kernel
theorem dX1_isOpen_15 : decode cX1_isOpen 15 = .ok (.iconst 0, 1) := by decide +kernel
theorem dX1_isOpen_16 : decode cX1_isOpen 16 = .ok (.ireturn, 1) := by decide +kernel
theorem dX2_init_0 : decode cX2_init 0 = .ok (.aload_n 0, 1) := by decide +kernel
theorem dX2_init_1 : decode cX2_init 1 = .ok (.invokespecial 1, 3) := by decide +kernel
theorem dX2_init_4 : decode cX2_init 4 = .ok (.return_, 1) := by decide +kernel
theorem dX2_asks_0 : decode cX2_asks 0 = .ok (.aload_n 0, 1) := by decide +kernel
theorem dX2_asks_1 : decode cX2_asks 1 = .ok (.aload_n 1, 1) := by decide +kernel
theorem dX2_asks_2 : decode cX2_asks 2 = .ok (.putfield 7, 3) := by decide +kernel
theorem dX2_asks_5 : decode cX2_asks 5 = .ok (.aload_n 0, 1) := by decide +kernel
theorem dX2_asks_6 : decode cX2_asks 6 = .ok (.iconst 0, 1) := by decide +kernel
theorem dX2_asks_7 : decode cX2_asks 7 = .ok (.putfield 13, 3) := by decide +kernel
theorem dX2_asks_10 : decode cX2_asks 10 = .ok (.aload_n 0, 1) := by decide +kernel
theorem dX2_asks_11 : decode cX2_asks 11 = .ok (.iconst 0, 1) := by decide +kernel
theorem dX2_asks_12 : decode cX2_asks 12 = .ok (.putfield 17, 3) := by decide +kernel
theorem dX2_asks_15 : decode cX2_asks 15 = .ok (.aload_n 0, 1) := by decide +kernel
theorem dX2_asks_16 : decode cX2_asks 16 = .ok (.iconst 0, 1) := by decide +kernel
theorem dX2_asks_17 : decode cX2_asks 17 = .ok (.putfield 20, 3) := by decide +kernel
theorem dX2_asks_20 : decode cX2_asks 20 = .ok (.aload_n 0, 1) := by decide +kernel
theorem dX2_asks_21 : decode cX2_asks 21 = .ok (.iload_n 2, 1) := by decide +kernel
theorem dX2_asks_22 : decode cX2_asks 22 = .ok (.putfield 23, 3) := by decide +kernel
theorem dX2_asks_25 : decode cX2_asks 25 = .ok (.aload_n 0, 1) := by decide +kernel
theorem dX2_asks_26 : decode cX2_asks 26 = .ok (.lconst 0, 1) := by decide +kernel
theorem dX2_asks_27 : decode cX2_asks 27 = .ok (.putfield 27, 3) := by decide +kernel
theorem dX2_asks_30 : decode cX2_asks 30 = .ok (.return_, 1) := by decide +kernel
theorem dX2_replies_0 : decode cX2_replies 0 = .ok (.aload_n 0, 1) := by decide +kernel
theorem dX2_replies_1 : decode cX2_replies 1 = .ok (.aload_n 1, 1) := by decide +kernel
theorem dX2_replies_2 : decode cX2_replies 2 = .ok (.iconst 0, 1) := by decide +kernel
theorem dX2_replies_3 : decode cX2_replies 3 = .ok (.invokevirtual 31, 3) := by decide +kernel
theorem dX2_replies_6 : decode cX2_replies 6 = .ok (.aload_n 0, 1) := by decide +kernel
theorem dX2_replies_7 : decode cX2_replies 7 = .ok (.iconst 1, 1) := by decide +kernel
theorem dX2_replies_8 : decode cX2_replies 8 = .ok (.putfield 13, 3) := by decide +kernel
theorem dX2_replies_11 : decode cX2_replies 11 = .ok (.aload_n 0, 1) := by decide +kernel
theorem dX2_replies_12 : decode cX2_replies 12 = .ok (.lload_n 2, 1) := by decide +kernel
theorem dX2_replies_13 : decode cX2_replies 13 = .ok (.putfield 27, 3) := by decide +kernel
theorem dX2_replies_16 : decode cX2_replies 16 = .ok (.return_, 1) := by decide +kernel
theorem dX2_refuses_0 : decode cX2_refuses 0 = .ok (.aload_n 0, 1) := by decide +kernel
theorem dX2_refuses_1 : decode cX2_refuses 1 = .ok (.aload_n 1, 1) := by decide +kernel
theorem dX2_refuses_2 : decode cX2_refuses 2 = .ok (.lconst 0, 1) := by decide +kernel
theorem dX2_refuses_3 : decode cX2_refuses 3 = .ok (.invokevirtual 35, 3) := by decide +kernel
theorem dX2_refuses_6 : decode cX2_refuses 6 = .ok (.aload_n 0, 1) := by decide +kernel
theorem dX2_refuses_7 : decode cX2_refuses 7 = .ok (.iconst 1, 1) := by decide +kernel
theorem dX2_refuses_8 : decode cX2_refuses 8 = .ok (.putfield 17, 3) := by decide +kernel
theorem dX2_refuses_11 : decode cX2_refuses 11 = .ok (.return_, 1) := by decide +kernel
theorem dX2_become_0 : decode cX2_become 0 = .ok (.aload_n 0, 1) := by decide +kernel
theorem dX2_become_1 : decode cX2_become 1 = .ok (.aload_n 1, 1) := by decide +kernel
theorem dX2_become_2 : decode cX2_become 2 = .ok (.getfield 7, 3) := by decide +kernel
theorem dX2_become_5 : decode cX2_become 5 = .ok (.putfield 7, 3) := by decide +kernel
theorem dX2_become_8 : decode cX2_become 8 = .ok (.aload_n 0, 1) := by decide +kernel
theorem dX2_become_9 : decode cX2_become 9 = .ok (.aload_n 1, 1) := by decide +kernel
theorem dX2_become_10 : decode cX2_become 10 = .ok (.getfield 13, 3) := by decide +kernel
theorem dX2_become_13 : decode cX2_become 13 = .ok (.putfield 13, 3) := by decide +kernel
theorem dX2_become_16 : decode cX2_become 16 = .ok (.aload_n 0, 1) := by decide +kernel
theorem dX2_become_17 : decode cX2_become 17 = .ok (.aload_n 1, 1) := by decide +kernel
theorem dX2_become_18 : decode cX2_become 18 = .ok (.getfield 17, 3) := by decide +kernel
theorem dX2_become_21 : decode cX2_become 21 = .ok (.putfield 17, 3) := by decide +kernel
theorem dX2_become_24 : decode cX2_become 24 = .ok (.aload_n 0, 1) := by decide +kernel
theorem dX2_become_25 : decode cX2_become 25 = .ok (.aload_n 1, 1) := by decide +kernel
theorem dX2_become_26 : decode cX2_become 26 = .ok (.getfield 20, 3) := by decide +kernel
theorem dX2_become_29 : decode cX2_become 29 = .ok (.putfield 20, 3) := by decide +kernel
theorem dX2_become_32 : decode cX2_become 32 = .ok (.aload_n 0, 1) := by decide +kernel
theorem dX2_become_33 : decode cX2_become 33 = .ok (.aload_n 1, 1) := by decide +kernel
theorem dX2_become_34 : decode cX2_become 34 = .ok (.getfield 23, 3) := by decide +kernel
theorem dX2_become_37 : decode cX2_become 37 = .ok (.putfield 23, 3) := by decide +kernel
theorem dX2_become_40 : decode cX2_become 40 = .ok (.aload_n 0, 1) := by decide +kernel
theorem dX2_become_41 : decode cX2_become 41 = .ok (.aload_n 1, 1) := by decide +kernel
theorem dX2_become_42 : decode cX2_become 42 = .ok (.getfield 27, 3) := by decide +kernel
theorem dX2_become_45 : decode cX2_become 45 = .ok (.putfield 27, 3) := by decide +kernel
theorem dX2_become_48 : decode cX2_become 48 = .ok (.return_, 1) := by decide +kernel
theorem dX3_init_0 : decode cX3_init 0 = .ok (.aload_n 0, 1) := by decide +kernel
theorem dX3_init_1 : decode cX3_init 1 = .ok (.invokespecial 3, 3) := by decide +kernel
theorem dX3_init_4 : decode cX3_init 4 = .ok (.aload_n 0, 1) := by decide +kernel
theorem dX3_init_5 : decode cX3_init 5 = .ok (.iconst 1, 1) := by decide +kernel
theorem dX3_init_6 : decode cX3_init 6 = .ok (.putfield 9, 3) := by decide +kernel
theorem dX3_init_9 : decode cX3_init 9 = .ok (.aload_n 0, 1) := by decide +kernel
theorem dX3_init_10 : decode cX3_init 10 = .ok (.bipush 16, 2) := by decide +kernel
theorem dX3_init_12 : decode cX3_init 12 = .ok (.newarray .int, 2) := by decide +kernel
theorem dX3_init_14 : decode cX3_init 14 = .ok (.putfield 15, 3) := by decide +kernel
theorem dX3_init_17 : decode cX3_init 17 = .ok (.aload_n 0, 1) := by decide +kernel
theorem dX3_init_18 : decode cX3_init 18 = .ok (.bipush 16, 2) := by decide +kernel
theorem dX3_init_20 : decode cX3_init 20 = .ok (.newarray .long, 2) := by decide +kernel
theorem dX3_init_22 : decode cX3_init 22 = .ok (.putfield 19, 3) := by decide +kernel
theorem dX3_init_25 : decode cX3_init 25 = .ok (.aload_n 0, 1) := by decide +kernel
theorem dX3_init_26 : decode cX3_init 26 = .ok (.iload_n 1, 1) := by decide +kernel
theorem dX3_init_27 : decode cX3_init 27 = .ok (.putfield 23, 3) := by decide +kernel
theorem dX3_init_30 : decode cX3_init 30 = .ok (.return_, 1) := by decide +kernel
theorem dX3_isWithin_0 : decode cX3_isWithin 0 = .ok (.iload_n 1, 1) := by decide +kernel
theorem dX3_isWithin_1 : decode cX3_isWithin 1 = .ok (.aload_n 0, 1) := by decide +kernel
theorem dX3_isWithin_2 : decode cX3_isWithin 2 = .ok (.getfield 9, 3) := by decide +kernel
theorem dX3_isWithin_5 : decode cX3_isWithin 5 = .ok (.if_icmp .lt 20, 3) := by decide +kernel
theorem dX3_isWithin_8 : decode cX3_isWithin 8 = .ok (.iload_n 1, 1) := by decide +kernel
theorem dX3_isWithin_9 : decode cX3_isWithin 9 = .ok (.aload_n 0, 1) := by decide +kernel
theorem dX3_isWithin_10 : decode cX3_isWithin 10 = .ok (.getfield 9, 3) := by decide +kernel
theorem dX3_isWithin_13 : decode cX3_isWithin 13 = .ok (.isub, 1) := by decide +kernel
theorem dX3_isWithin_14 : decode cX3_isWithin 14 = .ok (.aload_n 0, 1) := by decide +kernel
theorem dX3_isWithin_15 : decode cX3_isWithin 15 = .ok (.getfield 23, 3) := by decide +kernel
theorem dX3_isWithin_18 : decode cX3_isWithin 18 = .ok (.if_icmp .ge 7, 3) := by decide +kernel
theorem dX3_isWithin_21 : decode cX3_isWithin 21 = .ok (.iconst 1, 1) := by decide +kernel
theorem dX3_isWithin_22 : decode cX3_isWithin 22 = .ok (.goto 4, 3) := by decide +kernel
theorem dX3_isWithin_25 : decode cX3_isWithin 25 = .ok (.iconst 0, 1) := by decide +kernel
theorem dX3_isWithin_26 : decode cX3_isWithin 26 = .ok (.ireturn, 1) := by decide +kernel
theorem dX3_stateOf_0 : decode cX3_stateOf 0 = .ok (.aload_n 0, 1) := by decide +kernel
theorem dX3_stateOf_1 : decode cX3_stateOf 1 = .ok (.iload_n 1, 1) := by decide +kernel
theorem dX3_stateOf_2 : decode cX3_stateOf 2 = .ok (.invokevirtual 26, 3) := by decide +kernel
theorem dX3_stateOf_5 : decode cX3_stateOf 5 = .ok (.ifCond .eq 15, 3) := by decide +kernel
theorem dX3_stateOf_8 : decode cX3_stateOf 8 = .ok (.aload_n 0, 1) := by decide +kernel
theorem dX3_stateOf_9 : decode cX3_stateOf 9 = .ok (.getfield 15, 3) := by decide +kernel
theorem dX3_stateOf_12 : decode cX3_stateOf 12 = .ok (.iload_n 1, 1) := by decide +kernel
theorem dX3_stateOf_13 : decode cX3_stateOf 13 = .ok (.bipush 15, 2) := by decide +kernel
theorem dX3_stateOf_15 : decode cX3_stateOf 15 = .ok (.iand, 1) := by decide +kernel
theorem dX3_stateOf_16 : decode cX3_stateOf 16 = .ok (.iaload, 1) := by decide +kernel
theorem dX3_stateOf_17 : decode cX3_stateOf 17 = .ok (.goto 4, 3) := by decide +kernel
theorem dX3_stateOf_20 : decode cX3_stateOf 20 = .ok (.iconst 0, 1) := by decide +kernel
theorem dX3_stateOf_21 : decode cX3_stateOf 21 = .ok (.ireturn, 1) := by decide +kernel
theorem dX3_answerOf_0 : decode cX3_answerOf 0 = .ok (.aload_n 0, 1) := by decide +kernel
theorem dX3_answerOf_1 : decode cX3_answerOf 1 = .ok (.iload_n 1, 1) := by decide +kernel
theorem dX3_answerOf_2 : decode cX3_answerOf 2 = .ok (.invokevirtual 26, 3) := by decide +kernel
theorem dX3_answerOf_5 : decode cX3_answerOf 5 = .ok (.ifCond .eq 15, 3) := by decide +kernel
theorem dX3_answerOf_8 : decode cX3_answerOf 8 = .ok (.aload_n 0, 1) := by decide +kernel
theorem dX3_answerOf_9 : decode cX3_answerOf 9 = .ok (.getfield 19, 3) := by decide +kernel
theorem dX3_answerOf_12 : decode cX3_answerOf 12 = .ok (.iload_n 1, 1) := by decide +kernel
theorem dX3_answerOf_13 : decode cX3_answerOf 13 = .ok (.bipush 15, 2) := by decide +kernel
theorem dX3_answerOf_15 : decode cX3_answerOf 15 = .ok (.iand, 1) := by decide +kernel
theorem dX3_answerOf_16 : decode cX3_answerOf 16 = .ok (.laload, 1) := by decide +kernel
theorem dX3_answerOf_17 : decode cX3_answerOf 17 = .ok (.goto 4, 3) := by decide +kernel
theorem dX3_answerOf_20 : decode cX3_answerOf 20 = .ok (.lconst 0, 1) := by decide +kernel
theorem dX3_answerOf_21 : decode cX3_answerOf 21 = .ok (.lreturn, 1) := by decide +kernel
theorem dX3_write_0 : decode cX3_write 0 = .ok (.aload_n 0, 1) := by decide +kernel
theorem dX3_write_1 : decode cX3_write 1 = .ok (.iload_n 1, 1) := by decide +kernel
theorem dX3_write_2 : decode cX3_write 2 = .ok (.invokevirtual 26, 3) := by decide +kernel
theorem dX3_write_5 : decode cX3_write 5 = .ok (.ifCond .ne 4, 3) := by decide +kernel
theorem dX3_write_8 : decode cX3_write 8 = .ok (.return_, 1) := by decide +kernel
theorem dX3_write_9 : decode cX3_write 9 = .ok (.aload_n 0, 1) := by decide +kernel
theorem dX3_write_10 : decode cX3_write 10 = .ok (.getfield 15, 3) := by decide +kernel
theorem dX3_write_13 : decode cX3_write 13 = .ok (.iload_n 1, 1) := by decide +kernel
theorem dX3_write_14 : decode cX3_write 14 = .ok (.bipush 15, 2) := by decide +kernel
theorem dX3_write_16 : decode cX3_write 16 = .ok (.iand, 1) := by decide +kernel
theorem dX3_write_17 : decode cX3_write 17 = .ok (.iaload, 1) := by decide +kernel
theorem dX3_write_18 : decode cX3_write 18 = .ok (.ifCond .ne 13, 3) := by decide +kernel
theorem dX3_write_21 : decode cX3_write 21 = .ok (.aload_n 0, 1) := by decide +kernel
theorem dX3_write_22 : decode cX3_write 22 = .ok (.dup, 1) := by decide +kernel
theorem dX3_write_23 : decode cX3_write 23 = .ok (.getfield 30, 3) := by decide +kernel
theorem dX3_write_26 : decode cX3_write 26 = .ok (.iconst 1, 1) := by decide +kernel
theorem dX3_write_27 : decode cX3_write 27 = .ok (.iadd, 1) := by decide +kernel
theorem dX3_write_28 : decode cX3_write 28 = .ok (.putfield 30, 3) := by decide +kernel
theorem dX3_write_31 : decode cX3_write 31 = .ok (.aload_n 0, 1) := by decide +kernel
theorem dX3_write_32 : decode cX3_write 32 = .ok (.getfield 15, 3) := by decide +kernel
theorem dX3_write_35 : decode cX3_write 35 = .ok (.iload_n 1, 1) := by decide +kernel
theorem dX3_write_36 : decode cX3_write 36 = .ok (.bipush 15, 2) := by decide +kernel
theorem dX3_write_38 : decode cX3_write 38 = .ok (.iand, 1) := by decide +kernel
theorem dX3_write_39 : decode cX3_write 39 = .ok (.iload_n 2, 1) := by decide +kernel
theorem dX3_write_40 : decode cX3_write 40 = .ok (.iastore, 1) := by decide +kernel
theorem dX3_write_41 : decode cX3_write 41 = .ok (.aload_n 0, 1) := by decide +kernel
theorem dX3_write_42 : decode cX3_write 42 = .ok (.getfield 19, 3) := by decide +kernel
theorem dX3_write_45 : decode cX3_write 45 = .ok (.iload_n 1, 1) := by decide +kernel
theorem dX3_write_46 : decode cX3_write 46 = .ok (.bipush 15, 2) := by decide +kernel
theorem dX3_write_48 : decode cX3_write 48 = .ok (.iand, 1) := by decide +kernel
theorem dX3_write_49 : decode cX3_write 49 = .ok (.lload_n 3, 1) := by decide +kernel
theorem dX3_write_50 : decode cX3_write 50 = .ok (.lastore, 1) := by decide +kernel
theorem dX3_write_51 : decode cX3_write 51 = .ok (.return_, 1) := by decide +kernel
theorem dX3_raiseLow_0 : decode cX3_raiseLow 0 = .ok (.iload_n 1, 1) := by decide +kernel
theorem dX3_raiseLow_1 : decode cX3_raiseLow 1 = .ok (.aload_n 0, 1) := by decide +kernel
theorem dX3_raiseLow_2 : decode cX3_raiseLow 2 = .ok (.getfield 9, 3) := by decide +kernel
theorem dX3_raiseLow_5 : decode cX3_raiseLow 5 = .ok (.if_icmp .gt 4, 3) := by decide +kernel
theorem dX3_raiseLow_8 : decode cX3_raiseLow 8 = .ok (.return_, 1) := by decide +kernel
theorem dX3_raiseLow_9 : decode cX3_raiseLow 9 = .ok (.iload_n 1, 1) := by decide +kernel
theorem dX3_raiseLow_10 : decode cX3_raiseLow 10 = .ok (.aload_n 0, 1) := by decide +kernel
theorem dX3_raiseLow_11 : decode cX3_raiseLow 11 = .ok (.getfield 9, 3) := by decide +kernel
theorem dX3_raiseLow_14 : decode cX3_raiseLow 14 = .ok (.aload_n 0, 1) := by decide +kernel
theorem dX3_raiseLow_15 : decode cX3_raiseLow 15 = .ok (.getfield 23, 3) := by decide +kernel
theorem dX3_raiseLow_18 : decode cX3_raiseLow 18 = .ok (.iadd, 1) := by decide +kernel
theorem dX3_raiseLow_19 : decode cX3_raiseLow 19 = .ok (.invokestatic 33, 3) := by decide +kernel
theorem dX3_raiseLow_22 : decode cX3_raiseLow 22 = .ok (.istore_n 2, 1) := by decide +kernel
theorem dX3_raiseLow_23 : decode cX3_raiseLow 23 = .ok (.aload_n 0, 1) := by decide +kernel
theorem dX3_raiseLow_24 : decode cX3_raiseLow 24 = .ok (.getfield 9, 3) := by decide +kernel
theorem dX3_raiseLow_27 : decode cX3_raiseLow 27 = .ok (.istore_n 3, 1) := by decide +kernel
theorem dX3_raiseLow_28 : decode cX3_raiseLow 28 = .ok (.iload_n 3, 1) := by decide +kernel
theorem dX3_raiseLow_29 : decode cX3_raiseLow 29 = .ok (.iload_n 2, 1) := by decide +kernel
theorem dX3_raiseLow_30 : decode cX3_raiseLow 30 = .ok (.if_icmp .ge 14, 3) := by decide +kernel
theorem dX3_raiseLow_33 : decode cX3_raiseLow 33 = .ok (.aload_n 0, 1) := by decide +kernel
theorem dX3_raiseLow_34 : decode cX3_raiseLow 34 = .ok (.iload_n 3, 1) := by decide +kernel
theorem dX3_raiseLow_35 : decode cX3_raiseLow 35 = .ok (.invokevirtual 39, 3) := by decide +kernel
theorem dX3_raiseLow_38 : decode cX3_raiseLow 38 = .ok (.iinc 3 1, 3) := by decide +kernel
theorem dX3_raiseLow_41 : decode cX3_raiseLow 41 = .ok (.goto (-13), 3) := by decide +kernel
theorem dX3_raiseLow_44 : decode cX3_raiseLow 44 = .ok (.aload_n 0, 1) := by decide +kernel
theorem dX3_raiseLow_45 : decode cX3_raiseLow 45 = .ok (.iload_n 1, 1) := by decide +kernel
theorem dX3_raiseLow_46 : decode cX3_raiseLow 46 = .ok (.putfield 9, 3) := by decide +kernel
theorem dX3_raiseLow_49 : decode cX3_raiseLow 49 = .ok (.return_, 1) := by decide +kernel
theorem dX3_beginLife_0 : decode cX3_beginLife 0 = .ok (.aload_n 0, 1) := by decide +kernel
theorem dX3_beginLife_1 : decode cX3_beginLife 1 = .ok (.getfield 9, 3) := by decide +kernel
theorem dX3_beginLife_4 : decode cX3_beginLife 4 = .ok (.istore_n 2, 1) := by decide +kernel
theorem dX3_beginLife_5 : decode cX3_beginLife 5 = .ok (.iload_n 2, 1) := by decide +kernel
theorem dX3_beginLife_6 : decode cX3_beginLife 6 = .ok (.aload_n 0, 1) := by decide +kernel
theorem dX3_beginLife_7 : decode cX3_beginLife 7 = .ok (.getfield 9, 3) := by decide +kernel
theorem dX3_beginLife_10 : decode cX3_beginLife 10 = .ok (.aload_n 0, 1) := by decide +kernel
theorem dX3_beginLife_11 : decode cX3_beginLife 11 = .ok (.getfield 23, 3) := by decide +kernel
theorem dX3_beginLife_14 : decode cX3_beginLife 14 = .ok (.iadd, 1) := by decide +kernel
theorem dX3_beginLife_15 : decode cX3_beginLife 15 = .ok (.if_icmp .ge 14, 3) := by decide +kernel
theorem dX3_beginLife_18 : decode cX3_beginLife 18 = .ok (.aload_n 0, 1) := by decide +kernel
theorem dX3_beginLife_19 : decode cX3_beginLife 19 = .ok (.iload_n 2, 1) := by decide +kernel
theorem dX3_beginLife_20 : decode cX3_beginLife 20 = .ok (.invokevirtual 39, 3) := by decide +kernel
theorem dX3_beginLife_23 : decode cX3_beginLife 23 = .ok (.iinc 2 1, 3) := by decide +kernel
theorem dX3_beginLife_26 : decode cX3_beginLife 26 = .ok (.goto (-21), 3) := by decide +kernel
theorem dX3_beginLife_29 : decode cX3_beginLife 29 = .ok (.aload_n 0, 1) := by decide +kernel
theorem dX3_beginLife_30 : decode cX3_beginLife 30 = .ok (.iload_n 1, 1) := by decide +kernel
theorem dX3_beginLife_31 : decode cX3_beginLife 31 = .ok (.putfield 43, 3) := by decide +kernel
theorem dX3_beginLife_34 : decode cX3_beginLife 34 = .ok (.aload_n 0, 1) := by decide +kernel
theorem dX3_beginLife_35 : decode cX3_beginLife 35 = .ok (.iconst 1, 1) := by decide +kernel
theorem dX3_beginLife_36 : decode cX3_beginLife 36 = .ok (.putfield 9, 3) := by decide +kernel
theorem dX3_beginLife_39 : decode cX3_beginLife 39 = .ok (.return_, 1) := by decide +kernel
theorem dX3_hasMidst_0 : decode cX3_hasMidst 0 = .ok (.aload_n 0, 1) := by decide +kernel
theorem dX3_hasMidst_1 : decode cX3_hasMidst 1 = .ok (.getfield 9, 3) := by decide +kernel
theorem dX3_hasMidst_4 : decode cX3_hasMidst 4 = .ok (.istore_n 1, 1) := by decide +kernel
theorem dX3_hasMidst_5 : decode cX3_hasMidst 5 = .ok (.iload_n 1, 1) := by decide +kernel
theorem dX3_hasMidst_6 : decode cX3_hasMidst 6 = .ok (.aload_n 0, 1) := by decide +kernel
theorem dX3_hasMidst_7 : decode cX3_hasMidst 7 = .ok (.getfield 9, 3) := by decide +kernel
theorem dX3_hasMidst_10 : decode cX3_hasMidst 10 = .ok (.aload_n 0, 1) := by decide +kernel
theorem dX3_hasMidst_11 : decode cX3_hasMidst 11 = .ok (.getfield 23, 3) := by decide +kernel
theorem dX3_hasMidst_14 : decode cX3_hasMidst 14 = .ok (.iadd, 1) := by decide +kernel
theorem dX3_hasMidst_15 : decode cX3_hasMidst 15 = .ok (.if_icmp .ge 20, 3) := by decide +kernel
theorem dX3_hasMidst_18 : decode cX3_hasMidst 18 = .ok (.aload_n 0, 1) := by decide +kernel
theorem dX3_hasMidst_19 : decode cX3_hasMidst 19 = .ok (.iload_n 1, 1) := by decide +kernel
theorem dX3_hasMidst_20 : decode cX3_hasMidst 20 = .ok (.invokevirtual 46, 3) := by decide +kernel
theorem dX3_hasMidst_23 : decode cX3_hasMidst 23 = .ok (.iconst 2, 1) := by decide +kernel
theorem dX3_hasMidst_24 : decode cX3_hasMidst 24 = .ok (.if_icmp .ne 5, 3) := by decide +kernel
theorem dX3_hasMidst_27 : decode cX3_hasMidst 27 = .ok (.iconst 1, 1) := by decide +kernel
theorem dX3_hasMidst_28 : decode cX3_hasMidst 28 = .ok (.ireturn, 1) := by decide +kernel
theorem dX3_hasMidst_29 : decode cX3_hasMidst 29 = .ok (.iinc 1 1, 3) := by decide +kernel
theorem dX3_hasMidst_32 : decode cX3_hasMidst 32 = .ok (.goto (-27), 3) := by decide +kernel
theorem dX3_hasMidst_35 : decode cX3_hasMidst 35 = .ok (.iconst 0, 1) := by decide +kernel
theorem dX3_hasMidst_36 : decode cX3_hasMidst 36 = .ok (.ireturn, 1) := by decide +kernel
theorem dX3_forget_0 : decode cX3_forget 0 = .ok (.aload_n 0, 1) := by decide +kernel
theorem dX3_forget_1 : decode cX3_forget 1 = .ok (.getfield 15, 3) := by decide +kernel
theorem dX3_forget_4 : decode cX3_forget 4 = .ok (.iload_n 1, 1) := by decide +kernel
theorem dX3_forget_5 : decode cX3_forget 5 = .ok (.bipush 15, 2) := by decide +kernel
theorem dX3_forget_7 : decode cX3_forget 7 = .ok (.iand, 1) := by decide +kernel
theorem dX3_forget_8 : decode cX3_forget 8 = .ok (.iaload, 1) := by decide +kernel
theorem dX3_forget_9 : decode cX3_forget 9 = .ok (.ifCond .eq 13, 3) := by decide +kernel
theorem dX3_forget_12 : decode cX3_forget 12 = .ok (.aload_n 0, 1) := by decide +kernel
theorem dX3_forget_13 : decode cX3_forget 13 = .ok (.dup, 1) := by decide +kernel
theorem dX3_forget_14 : decode cX3_forget 14 = .ok (.getfield 30, 3) := by decide +kernel
theorem dX3_forget_17 : decode cX3_forget 17 = .ok (.iconst 1, 1) := by decide +kernel
theorem dX3_forget_18 : decode cX3_forget 18 = .ok (.isub, 1) := by decide +kernel
theorem dX3_forget_19 : decode cX3_forget 19 = .ok (.putfield 30, 3) := by decide +kernel
theorem dX3_forget_22 : decode cX3_forget 22 = .ok (.aload_n 0, 1) := by decide +kernel
theorem dX3_forget_23 : decode cX3_forget 23 = .ok (.getfield 15, 3) := by decide +kernel
theorem dX3_forget_26 : decode cX3_forget 26 = .ok (.iload_n 1, 1) := by decide +kernel
theorem dX3_forget_27 : decode cX3_forget 27 = .ok (.bipush 15, 2) := by decide +kernel
theorem dX3_forget_29 : decode cX3_forget 29 = .ok (.iand, 1) := by decide +kernel
theorem dX3_forget_30 : decode cX3_forget 30 = .ok (.iconst 0, 1) := by decide +kernel
theorem dX3_forget_31 : decode cX3_forget 31 = .ok (.iastore, 1) := by decide +kernel
theorem dX3_forget_32 : decode cX3_forget 32 = .ok (.return_, 1) := by decide +kernel
theorem dX4_init_0 : decode cX4_init 0 = .ok (.aload_n 0, 1) := by decide +kernel
theorem dX4_init_1 : decode cX4_init 1 = .ok (.invokespecial 3, 3) := by decide +kernel
theorem dX4_init_4 : decode cX4_init 4 = .ok (.aload_n 0, 1) := by decide +kernel
theorem dX4_init_5 : decode cX4_init 5 = .ok (.sipush 128, 3) := by decide +kernel
theorem dX4_init_8 : decode cX4_init 8 = .ok (.anewarray 9, 3) := by decide +kernel
theorem dX4_init_11 : decode cX4_init 11 = .ok (.putfield 11, 3) := by decide +kernel
theorem dX4_init_14 : decode cX4_init 14 = .ok (.iconst 0, 1) := by decide +kernel
theorem dX4_init_15 : decode cX4_init 15 = .ok (.istore_n 1, 1) := by decide +kernel
theorem dX4_init_16 : decode cX4_init 16 = .ok (.iload_n 1, 1) := by decide +kernel
theorem dX4_init_17 : decode cX4_init 17 = .ok (.sipush 128, 3) := by decide +kernel
theorem dX4_init_20 : decode cX4_init 20 = .ok (.if_icmp .ge 22, 3) := by decide +kernel
theorem dX4_init_23 : decode cX4_init 23 = .ok (.aload_n 0, 1) := by decide +kernel
theorem dX4_init_24 : decode cX4_init 24 = .ok (.getfield 11, 3) := by decide +kernel
theorem dX4_init_27 : decode cX4_init 27 = .ok (.iload_n 1, 1) := by decide +kernel
theorem dX4_init_28 : decode cX4_init 28 = .ok (.new 9, 3) := by decide +kernel
theorem dX4_init_31 : decode cX4_init 31 = .ok (.dup, 1) := by decide +kernel
theorem dX4_init_32 : decode cX4_init 32 = .ok (.invokespecial 17, 3) := by decide +kernel
theorem dX4_init_35 : decode cX4_init 35 = .ok (.aastore, 1) := by decide +kernel
theorem dX4_init_36 : decode cX4_init 36 = .ok (.iinc 1 1, 3) := by decide +kernel
theorem dX4_init_39 : decode cX4_init 39 = .ok (.goto (-23), 3) := by decide +kernel
theorem dX4_init_42 : decode cX4_init 42 = .ok (.return_, 1) := by decide +kernel
theorem dX4_isFull_0 : decode cX4_isFull 0 = .ok (.aload_n 0, 1) := by decide +kernel
theorem dX4_isFull_1 : decode cX4_isFull 1 = .ok (.getfield 18, 3) := by decide +kernel
theorem dX4_isFull_4 : decode cX4_isFull 4 = .ok (.bipush 120, 2) := by decide +kernel
theorem dX4_isFull_6 : decode cX4_isFull 6 = .ok (.if_icmp .lt 7, 3) := by decide +kernel
theorem dX4_isFull_9 : decode cX4_isFull 9 = .ok (.iconst 1, 1) := by decide +kernel
theorem dX4_isFull_10 : decode cX4_isFull 10 = .ok (.goto 4, 3) := by decide +kernel
theorem dX4_isFull_13 : decode cX4_isFull 13 = .ok (.iconst 0, 1) := by decide +kernel
theorem dX4_isFull_14 : decode cX4_isFull 14 = .ok (.ireturn, 1) := by decide +kernel
theorem dX4_at_0 : decode cX4_at 0 = .ok (.iload_n 1, 1) := by decide +kernel
theorem dX4_at_1 : decode cX4_at 1 = .ok (.ifCond .lt 24, 3) := by decide +kernel
theorem dX4_at_4 : decode cX4_at 4 = .ok (.iload_n 1, 1) := by decide +kernel
theorem dX4_at_5 : decode cX4_at 5 = .ok (.aload_n 0, 1) := by decide +kernel
theorem dX4_at_6 : decode cX4_at 6 = .ok (.getfield 18, 3) := by decide +kernel
theorem dX4_at_9 : decode cX4_at 9 = .ok (.if_icmp .ge 16, 3) := by decide +kernel
theorem dX4_at_12 : decode cX4_at 12 = .ok (.aload_n 0, 1) := by decide +kernel
theorem dX4_at_13 : decode cX4_at 13 = .ok (.getfield 11, 3) := by decide +kernel
theorem dX4_at_16 : decode cX4_at 16 = .ok (.aload_n 0, 1) := by decide +kernel
theorem dX4_at_17 : decode cX4_at 17 = .ok (.iload_n 1, 1) := by decide +kernel
theorem dX4_at_18 : decode cX4_at 18 = .ok (.invokevirtual 22, 3) := by decide +kernel
theorem dX4_at_21 : decode cX4_at 21 = .ok (.aaload, 1) := by decide +kernel
theorem dX4_at_22 : decode cX4_at 22 = .ok (.goto 4, 3) := by decide +kernel
theorem dX4_at_25 : decode cX4_at 25 = .ok (.aconst_null, 1) := by decide +kernel
theorem dX4_at_26 : decode cX4_at 26 = .ok (.areturn, 1) := by decide +kernel
theorem dX4_fresh_0 : decode cX4_fresh 0 = .ok (.aload_n 0, 1) := by decide +kernel
theorem dX4_fresh_1 : decode cX4_fresh 1 = .ok (.invokevirtual 26, 3) := by decide +kernel
theorem dX4_fresh_4 : decode cX4_fresh 4 = .ok (.ifCond .eq 15, 3) := by decide +kernel
theorem dX4_fresh_7 : decode cX4_fresh 7 = .ok (.aload_n 0, 1) := by decide +kernel
theorem dX4_fresh_8 : decode cX4_fresh 8 = .ok (.dup, 1) := by decide +kernel
theorem dX4_fresh_9 : decode cX4_fresh 9 = .ok (.getfield 30, 3) := by decide +kernel
theorem dX4_fresh_12 : decode cX4_fresh 12 = .ok (.iconst 1, 1) := by decide +kernel
theorem dX4_fresh_13 : decode cX4_fresh 13 = .ok (.iadd, 1) := by decide +kernel
theorem dX4_fresh_14 : decode cX4_fresh 14 = .ok (.putfield 30, 3) := by decide +kernel
theorem dX4_fresh_17 : decode cX4_fresh 17 = .ok (.aconst_null, 1) := by decide +kernel
theorem dX4_fresh_18 : decode cX4_fresh 18 = .ok (.areturn, 1) := by decide +kernel
theorem dX4_fresh_19 : decode cX4_fresh 19 = .ok (.aload_n 0, 1) := by decide +kernel
theorem dX4_fresh_20 : decode cX4_fresh 20 = .ok (.dup, 1) := by decide +kernel
theorem dX4_fresh_21 : decode cX4_fresh 21 = .ok (.getfield 18, 3) := by decide +kernel
theorem dX4_fresh_24 : decode cX4_fresh 24 = .ok (.iconst 1, 1) := by decide +kernel
theorem dX4_fresh_25 : decode cX4_fresh 25 = .ok (.iadd, 1) := by decide +kernel
theorem dX4_fresh_26 : decode cX4_fresh 26 = .ok (.putfield 18, 3) := by decide +kernel
theorem dX4_fresh_29 : decode cX4_fresh 29 = .ok (.aload_n 0, 1) := by decide +kernel
theorem dX4_fresh_30 : decode cX4_fresh 30 = .ok (.getfield 11, 3) := by decide +kernel
theorem dX4_fresh_33 : decode cX4_fresh 33 = .ok (.aload_n 0, 1) := by decide +kernel
theorem dX4_fresh_34 : decode cX4_fresh 34 = .ok (.aload_n 0, 1) := by decide +kernel
theorem dX4_fresh_35 : decode cX4_fresh 35 = .ok (.getfield 18, 3) := by decide +kernel
theorem dX4_fresh_38 : decode cX4_fresh 38 = .ok (.iconst 1, 1) := by decide +kernel
theorem dX4_fresh_39 : decode cX4_fresh 39 = .ok (.isub, 1) := by decide +kernel
theorem dX4_fresh_40 : decode cX4_fresh 40 = .ok (.invokevirtual 22, 3) := by decide +kernel
theorem dX4_fresh_43 : decode cX4_fresh 43 = .ok (.aaload, 1) := by decide +kernel
theorem dX4_fresh_44 : decode cX4_fresh 44 = .ok (.areturn, 1) := by decide +kernel
theorem dX4_take_0 : decode cX4_take 0 = .ok (.aload_n 0, 1) := by decide +kernel
theorem dX4_take_1 : decode cX4_take 1 = .ok (.iload_n 1, 1) := by decide +kernel
theorem dX4_take_2 : decode cX4_take 2 = .ok (.invokevirtual 33, 3) := by decide +kernel
theorem dX4_take_5 : decode cX4_take 5 = .ok (.astore_n 2, 1) := by decide +kernel
theorem dX4_take_6 : decode cX4_take 6 = .ok (.aload_n 2, 1) := by decide +kernel
theorem dX4_take_7 : decode cX4_take 7 = .ok (.ifnonnull 5, 3) := by decide +kernel
theorem dX4_take_10 : decode cX4_take 10 = .ok (.aconst_null, 1) := by decide +kernel
theorem dX4_take_11 : decode cX4_take 11 = .ok (.areturn, 1) := by decide +kernel
theorem dX4_take_12 : decode cX4_take 12 = .ok (.iload_n 1, 1) := by decide +kernel
theorem dX4_take_13 : decode cX4_take 13 = .ok (.istore_n 3, 1) := by decide +kernel
theorem dX4_take_14 : decode cX4_take 14 = .ok (.iload_n 3, 1) := by decide +kernel
theorem dX4_take_15 : decode cX4_take 15 = .ok (.ifCond .le 31, 3) := by decide +kernel
theorem dX4_take_18 : decode cX4_take 18 = .ok (.aload_n 0, 1) := by decide +kernel
theorem dX4_take_19 : decode cX4_take 19 = .ok (.getfield 11, 3) := by decide +kernel
theorem dX4_take_22 : decode cX4_take 22 = .ok (.aload_n 0, 1) := by decide +kernel
theorem dX4_take_23 : decode cX4_take 23 = .ok (.iload_n 3, 1) := by decide +kernel
theorem dX4_take_24 : decode cX4_take 24 = .ok (.invokevirtual 22, 3) := by decide +kernel
theorem dX4_take_27 : decode cX4_take 27 = .ok (.aload_n 0, 1) := by decide +kernel
theorem dX4_take_28 : decode cX4_take 28 = .ok (.getfield 11, 3) := by decide +kernel
theorem dX4_take_31 : decode cX4_take 31 = .ok (.aload_n 0, 1) := by decide +kernel
theorem dX4_take_32 : decode cX4_take 32 = .ok (.iload_n 3, 1) := by decide +kernel
theorem dX4_take_33 : decode cX4_take 33 = .ok (.iconst 1, 1) := by decide +kernel
theorem dX4_take_34 : decode cX4_take 34 = .ok (.isub, 1) := by decide +kernel
theorem dX4_take_35 : decode cX4_take 35 = .ok (.invokevirtual 22, 3) := by decide +kernel
theorem dX4_take_38 : decode cX4_take 38 = .ok (.aaload, 1) := by decide +kernel
theorem dX4_take_39 : decode cX4_take 39 = .ok (.aastore, 1) := by decide +kernel
theorem dX4_take_40 : decode cX4_take 40 = .ok (.iinc 3 (-1), 3) := by decide +kernel
theorem dX4_take_43 : decode cX4_take 43 = .ok (.goto (-29), 3) := by decide +kernel
theorem dX4_take_46 : decode cX4_take 46 = .ok (.aload_n 0, 1) := by decide +kernel
theorem dX4_take_47 : decode cX4_take 47 = .ok (.getfield 11, 3) := by decide +kernel
theorem dX4_take_50 : decode cX4_take 50 = .ok (.aload_n 0, 1) := by decide +kernel
theorem dX4_take_51 : decode cX4_take 51 = .ok (.iconst 0, 1) := by decide +kernel
theorem dX4_take_52 : decode cX4_take 52 = .ok (.invokevirtual 22, 3) := by decide +kernel
theorem dX4_take_55 : decode cX4_take 55 = .ok (.aload_n 2, 1) := by decide +kernel
theorem dX4_take_56 : decode cX4_take 56 = .ok (.aastore, 1) := by decide +kernel
theorem dX4_take_57 : decode cX4_take 57 = .ok (.aload_n 0, 1) := by decide +kernel
theorem dX4_take_58 : decode cX4_take 58 = .ok (.aload_n 0, 1) := by decide +kernel
theorem dX4_take_59 : decode cX4_take 59 = .ok (.iconst 1, 1) := by decide +kernel
theorem dX4_take_60 : decode cX4_take 60 = .ok (.invokevirtual 22, 3) := by decide +kernel
theorem dX4_take_63 : decode cX4_take 63 = .ok (.putfield 37, 3) := by decide +kernel
theorem dX4_take_66 : decode cX4_take 66 = .ok (.aload_n 0, 1) := by decide +kernel
theorem dX4_take_67 : decode cX4_take 67 = .ok (.dup, 1) := by decide +kernel
theorem dX4_take_68 : decode cX4_take 68 = .ok (.getfield 18, 3) := by decide +kernel
theorem dX4_take_71 : decode cX4_take 71 = .ok (.iconst 1, 1) := by decide +kernel
theorem dX4_take_72 : decode cX4_take 72 = .ok (.isub, 1) := by decide +kernel
theorem dX4_take_73 : decode cX4_take 73 = .ok (.putfield 18, 3) := by decide +kernel
theorem dX4_take_76 : decode cX4_take 76 = .ok (.aload_n 2, 1) := by decide +kernel
theorem dX4_take_77 : decode cX4_take 77 = .ok (.areturn, 1) := by decide +kernel
theorem dX4_slot_0 : decode cX4_slot 0 = .ok (.aload_n 0, 1) := by decide +kernel
theorem dX4_slot_1 : decode cX4_slot 1 = .ok (.getfield 37, 3) := by decide +kernel
theorem dX4_slot_4 : decode cX4_slot 4 = .ok (.iload_n 1, 1) := by decide +kernel
theorem dX4_slot_5 : decode cX4_slot 5 = .ok (.iadd, 1) := by decide +kernel
theorem dX4_slot_6 : decode cX4_slot 6 = .ok (.bipush 127, 2) := by decide +kernel
theorem dX4_slot_8 : decode cX4_slot 8 = .ok (.iand, 1) := by decide +kernel
theorem dX4_slot_9 : decode cX4_slot 9 = .ok (.ireturn, 1) := by decide +kernel
theorem dX5_init_0 : decode cX5_init 0 = .ok (.aload_n 0, 1) := by decide +kernel
theorem dX5_init_1 : decode cX5_init 1 = .ok (.invokespecial 3, 3) := by decide +kernel
theorem dX5_init_4 : decode cX5_init 4 = .ok (.aload_n 0, 1) := by decide +kernel
theorem dX5_init_5 : decode cX5_init 5 = .ok (.bipush 6, 2) := by decide +kernel
theorem dX5_init_7 : decode cX5_init 7 = .ok (.newarray .long, 2) := by decide +kernel
theorem dX5_init_9 : decode cX5_init 9 = .ok (.putfield 9, 3) := by decide +kernel
theorem dX5_init_12 : decode cX5_init 12 = .ok (.aload_n 0, 1) := by decide +kernel
theorem dX5_init_13 : decode cX5_init 13 = .ok (.bipush 10, 2) := by decide +kernel
theorem dX5_init_15 : decode cX5_init 15 = .ok (.anewarray 15, 3) := by decide +kernel
theorem dX5_init_18 : decode cX5_init 18 = .ok (.putfield 17, 3) := by decide +kernel
theorem dX5_init_21 : decode cX5_init 21 = .ok (.iconst 0, 1) := by decide +kernel
theorem dX5_init_22 : decode cX5_init 22 = .ok (.istore_n 2, 1) := by decide +kernel
theorem dX5_init_23 : decode cX5_init 23 = .ok (.iload_n 2, 1) := by decide +kernel
theorem dX5_init_24 : decode cX5_init 24 = .ok (.bipush 10, 2) := by decide +kernel
theorem dX5_init_26 : decode cX5_init 26 = .ok (.if_icmp .ge 23, 3) := by decide +kernel
theorem dX5_init_29 : decode cX5_init 29 = .ok (.aload_n 0, 1) := by decide +kernel
theorem dX5_init_30 : decode cX5_init 30 = .ok (.getfield 17, 3) := by decide +kernel
theorem dX5_init_33 : decode cX5_init 33 = .ok (.iload_n 2, 1) := by decide +kernel
theorem dX5_init_34 : decode cX5_init 34 = .ok (.new 15, 3) := by decide +kernel
theorem dX5_init_37 : decode cX5_init 37 = .ok (.dup, 1) := by decide +kernel
theorem dX5_init_38 : decode cX5_init 38 = .ok (.iload_n 1, 1) := by decide +kernel
theorem dX5_init_39 : decode cX5_init 39 = .ok (.invokespecial 21, 3) := by decide +kernel
theorem dX5_init_42 : decode cX5_init 42 = .ok (.aastore, 1) := by decide +kernel
theorem dX5_init_43 : decode cX5_init 43 = .ok (.iinc 2 1, 3) := by decide +kernel
theorem dX5_init_46 : decode cX5_init 46 = .ok (.goto (-23), 3) := by decide +kernel
theorem dX5_init_49 : decode cX5_init 49 = .ok (.return_, 1) := by decide +kernel
theorem dX5_memoryOf_0 : decode cX5_memoryOf 0 = .ok (.iload_n 1, 1) := by decide +kernel
theorem dX5_memoryOf_1 : decode cX5_memoryOf 1 = .ok (.ifCond .lt 21, 3) := by decide +kernel
theorem dX5_memoryOf_4 : decode cX5_memoryOf 4 = .ok (.iload_n 1, 1) := by decide +kernel
theorem dX5_memoryOf_5 : decode cX5_memoryOf 5 = .ok (.aload_n 0, 1) := by decide +kernel
theorem dX5_memoryOf_6 : decode cX5_memoryOf 6 = .ok (.getfield 17, 3) := by decide +kernel
theorem dX5_memoryOf_9 : decode cX5_memoryOf 9 = .ok (.arraylength, 1) := by decide +kernel
theorem dX5_memoryOf_10 : decode cX5_memoryOf 10 = .ok (.if_icmp .ge 12, 3) := by decide +kernel
theorem dX5_memoryOf_13 : decode cX5_memoryOf 13 = .ok (.aload_n 0, 1) := by decide +kernel
theorem dX5_memoryOf_14 : decode cX5_memoryOf 14 = .ok (.getfield 17, 3) := by decide +kernel
theorem dX5_memoryOf_17 : decode cX5_memoryOf 17 = .ok (.iload_n 1, 1) := by decide +kernel
theorem dX5_memoryOf_18 : decode cX5_memoryOf 18 = .ok (.aaload, 1) := by decide +kernel
theorem dX5_memoryOf_19 : decode cX5_memoryOf 19 = .ok (.goto 4, 3) := by decide +kernel
theorem dX5_memoryOf_22 : decode cX5_memoryOf 22 = .ok (.aconst_null, 1) := by decide +kernel
theorem dX5_memoryOf_23 : decode cX5_memoryOf 23 = .ok (.areturn, 1) := by decide +kernel
theorem dX5_has_0 : decode cX5_has 0 = .ok (.iload_n 1, 1) := by decide +kernel
theorem dX5_has_1 : decode cX5_has 1 = .ok (.ifCond .lt 21, 3) := by decide +kernel
theorem dX5_has_4 : decode cX5_has 4 = .ok (.iload_n 1, 1) := by decide +kernel
theorem dX5_has_5 : decode cX5_has 5 = .ok (.aload_n 0, 1) := by decide +kernel
theorem dX5_has_6 : decode cX5_has 6 = .ok (.getfield 9, 3) := by decide +kernel
theorem dX5_has_9 : decode cX5_has 9 = .ok (.arraylength, 1) := by decide +kernel
theorem dX5_has_10 : decode cX5_has 10 = .ok (.if_icmp .ge 12, 3) := by decide +kernel
theorem dX5_has_13 : decode cX5_has 13 = .ok (.aload_n 0, 1) := by decide +kernel
theorem dX5_has_14 : decode cX5_has 14 = .ok (.getfield 9, 3) := by decide +kernel
theorem dX5_has_17 : decode cX5_has 17 = .ok (.iload_n 1, 1) := by decide +kernel
theorem dX5_has_18 : decode cX5_has 18 = .ok (.laload, 1) := by decide +kernel
theorem dX5_has_19 : decode cX5_has 19 = .ok (.goto 4, 3) := by decide +kernel
theorem dX5_has_22 : decode cX5_has 22 = .ok (.lconst 0, 1) := by decide +kernel
theorem dX5_has_23 : decode cX5_has 23 = .ok (.lreturn, 1) := by decide +kernel
theorem dX5_lets_0 : decode cX5_lets 0 = .ok (.aload_n 0, 1) := by decide +kernel
theorem dX5_lets_1 : decode cX5_lets 1 = .ok (.iload_n 1, 1) := by decide +kernel
theorem dX5_lets_2 : decode cX5_lets 2 = .ok (.invokevirtual 24, 3) := by decide +kernel
theorem dX5_lets_5 : decode cX5_lets 5 = .ok (.lload_n 2, 1) := by decide +kernel
theorem dX5_lets_6 : decode cX5_lets 6 = .ok (.ladd, 1) := by decide +kernel
theorem dX5_lets_7 : decode cX5_lets 7 = .ok (.lstore 4, 2) := by decide +kernel
theorem dX5_lets_9 : decode cX5_lets 9 = .ok (.lload 4, 2) := by decide +kernel
theorem dX5_lets_11 : decode cX5_lets 11 = .ok (.lconst 0, 1) := by decide +kernel
theorem dX5_lets_12 : decode cX5_lets 12 = .ok (.lcmp, 1) := by decide +kernel
theorem dX5_lets_13 : decode cX5_lets 13 = .ok (.ifCond .lt 16, 3) := by decide +kernel
theorem dX5_lets_16 : decode cX5_lets 16 = .ok (.lload 4, 2) := by decide +kernel
theorem dX5_lets_18 : decode cX5_lets 18 = .ok (.ldc2_w 28, 3) := by decide +kernel
theorem dX5_lets_21 : decode cX5_lets 21 = .ok (.lcmp, 1) := by decide +kernel
theorem dX5_lets_22 : decode cX5_lets 22 = .ok (.ifCond .gt 7, 3) := by decide +kernel
theorem dX5_lets_25 : decode cX5_lets 25 = .ok (.iconst 1, 1) := by decide +kernel
theorem dX5_lets_26 : decode cX5_lets 26 = .ok (.goto 4, 3) := by decide +kernel
theorem dX5_lets_29 : decode cX5_lets 29 = .ok (.iconst 0, 1) := by decide +kernel
theorem dX5_lets_30 : decode cX5_lets 30 = .ok (.ireturn, 1) := by decide +kernel
theorem dX5_change_0 : decode cX5_change 0 = .ok (.iload_n 1, 1) := by decide +kernel
theorem dX5_change_1 : decode cX5_change 1 = .ok (.ifCond .lt 22, 3) := by decide +kernel
theorem dX5_change_4 : decode cX5_change 4 = .ok (.iload_n 1, 1) := by decide +kernel
theorem dX5_change_5 : decode cX5_change 5 = .ok (.aload_n 0, 1) := by decide +kernel
theorem dX5_change_6 : decode cX5_change 6 = .ok (.getfield 9, 3) := by decide +kernel
theorem dX5_change_9 : decode cX5_change 9 = .ok (.arraylength, 1) := by decide +kernel
theorem dX5_change_10 : decode cX5_change 10 = .ok (.if_icmp .ge 13, 3) := by decide +kernel
theorem dX5_change_13 : decode cX5_change 13 = .ok (.aload_n 0, 1) := by decide +kernel
theorem dX5_change_14 : decode cX5_change 14 = .ok (.getfield 9, 3) := by decide +kernel
theorem dX5_change_17 : decode cX5_change 17 = .ok (.iload_n 1, 1) := by decide +kernel
theorem dX5_change_18 : decode cX5_change 18 = .ok (.dup2, 1) := by decide +kernel
theorem dX5_change_19 : decode cX5_change 19 = .ok (.laload, 1) := by decide +kernel
theorem dX5_change_20 : decode cX5_change 20 = .ok (.lload_n 2, 1) := by decide +kernel
theorem dX5_change_21 : decode cX5_change 21 = .ok (.ladd, 1) := by decide +kernel
theorem dX5_change_22 : decode cX5_change 22 = .ok (.lastore, 1) := by decide +kernel
theorem dX5_change_23 : decode cX5_change 23 = .ok (.return_, 1) := by decide +kernel
theorem dX6_init_0 : decode cX6_init 0 = .ok (.aload_n 0, 1) := by decide +kernel
theorem dX6_init_1 : decode cX6_init 1 = .ok (.invokespecial 1, 3) := by decide +kernel
theorem dX6_init_4 : decode cX6_init 4 = .ok (.aload_n 0, 1) := by decide +kernel
theorem dX6_init_5 : decode cX6_init 5 = .ok (.bipush 10, 2) := by decide +kernel
theorem dX6_init_7 : decode cX6_init 7 = .ok (.anewarray 9, 3) := by decide +kernel
theorem dX6_init_10 : decode cX6_init 10 = .ok (.putfield 11, 3) := by decide +kernel
theorem dX6_init_13 : decode cX6_init 13 = .ok (.aload_n 0, 1) := by decide +kernel
theorem dX6_init_14 : decode cX6_init 14 = .ok (.iconst 4, 1) := by decide +kernel
theorem dX6_init_15 : decode cX6_init 15 = .ok (.anewarray 15, 3) := by decide +kernel
theorem dX6_init_18 : decode cX6_init 18 = .ok (.putfield 17, 3) := by decide +kernel
theorem dX6_init_21 : decode cX6_init 21 = .ok (.aload_n 0, 1) := by decide +kernel
theorem dX6_init_22 : decode cX6_init 22 = .ok (.sipush 300, 3) := by decide +kernel
theorem dX6_init_25 : decode cX6_init 25 = .ok (.anewarray 21, 3) := by decide +kernel
theorem dX6_init_28 : decode cX6_init 28 = .ok (.putfield 23, 3) := by decide +kernel
theorem dX6_init_31 : decode cX6_init 31 = .ok (.aload_n 0, 1) := by decide +kernel
theorem dX6_init_32 : decode cX6_init 32 = .ok (.new 27, 3) := by decide +kernel
theorem dX6_init_35 : decode cX6_init 35 = .ok (.dup, 1) := by decide +kernel
theorem dX6_init_36 : decode cX6_init 36 = .ok (.invokespecial 29, 3) := by decide +kernel
theorem dX6_init_39 : decode cX6_init 39 = .ok (.putfield 30, 3) := by decide +kernel
theorem dX6_init_42 : decode cX6_init 42 = .ok (.aload_n 0, 1) := by decide +kernel
theorem dX6_init_43 : decode cX6_init 43 = .ok (.iconst 1, 1) := by decide +kernel
theorem dX6_init_44 : decode cX6_init 44 = .ok (.bipush 16, 2) := by decide +kernel
theorem dX6_init_46 : decode cX6_init 46 = .ok (.iload_n 1, 1) := by decide +kernel
theorem dX6_init_47 : decode cX6_init 47 = .ok (.invokestatic 34, 3) := by decide +kernel
theorem dX6_init_50 : decode cX6_init 50 = .ok (.invokestatic 40, 3) := by decide +kernel
theorem dX6_init_53 : decode cX6_init 53 = .ok (.putfield 43, 3) := by decide +kernel
theorem dX6_init_56 : decode cX6_init 56 = .ok (.iconst 0, 1) := by decide +kernel
theorem dX6_init_57 : decode cX6_init 57 = .ok (.istore_n 2, 1) := by decide +kernel
theorem dX6_init_58 : decode cX6_init 58 = .ok (.iload_n 2, 1) := by decide +kernel
theorem dX6_init_59 : decode cX6_init 59 = .ok (.bipush 10, 2) := by decide +kernel
theorem dX6_init_61 : decode cX6_init 61 = .ok (.if_icmp .ge 23, 3) := by decide +kernel
theorem dX6_init_64 : decode cX6_init 64 = .ok (.aload_n 0, 1) := by decide +kernel
theorem dX6_init_65 : decode cX6_init 65 = .ok (.getfield 11, 3) := by decide +kernel
theorem dX6_init_68 : decode cX6_init 68 = .ok (.iload_n 2, 1) := by decide +kernel
theorem dX6_init_69 : decode cX6_init 69 = .ok (.new 9, 3) := by decide +kernel
theorem dX6_init_72 : decode cX6_init 72 = .ok (.dup, 1) := by decide +kernel
theorem dX6_init_73 : decode cX6_init 73 = .ok (.iload_n 2, 1) := by decide +kernel
theorem dX6_init_74 : decode cX6_init 74 = .ok (.invokespecial 47, 3) := by decide +kernel
theorem dX6_init_77 : decode cX6_init 77 = .ok (.aastore, 1) := by decide +kernel
theorem dX6_init_78 : decode cX6_init 78 = .ok (.iinc 2 1, 3) := by decide +kernel
theorem dX6_init_81 : decode cX6_init 81 = .ok (.goto (-23), 3) := by decide +kernel
theorem dX6_init_84 : decode cX6_init 84 = .ok (.iconst 0, 1) := by decide +kernel
theorem dX6_init_85 : decode cX6_init 85 = .ok (.istore_n 2, 1) := by decide +kernel
theorem dX6_init_86 : decode cX6_init 86 = .ok (.iload_n 2, 1) := by decide +kernel
theorem dX6_init_87 : decode cX6_init 87 = .ok (.iconst 4, 1) := by decide +kernel
theorem dX6_init_88 : decode cX6_init 88 = .ok (.if_icmp .ge 26, 3) := by decide +kernel
theorem dX6_init_91 : decode cX6_init 91 = .ok (.aload_n 0, 1) := by decide +kernel
theorem dX6_init_92 : decode cX6_init 92 = .ok (.getfield 17, 3) := by decide +kernel
theorem dX6_init_95 : decode cX6_init 95 = .ok (.iload_n 2, 1) := by decide +kernel
theorem dX6_init_96 : decode cX6_init 96 = .ok (.new 15, 3) := by decide +kernel
theorem dX6_init_99 : decode cX6_init 99 = .ok (.dup, 1) := by decide +kernel
theorem dX6_init_100 : decode cX6_init 100 = .ok (.aload_n 0, 1) := by decide +kernel
theorem dX6_init_101 : decode cX6_init 101 = .ok (.getfield 43, 3) := by decide +kernel
theorem dX6_init_104 : decode cX6_init 104 = .ok (.invokespecial 50, 3) := by decide +kernel
theorem dX6_init_107 : decode cX6_init 107 = .ok (.aastore, 1) := by decide +kernel
theorem dX6_init_108 : decode cX6_init 108 = .ok (.iinc 2 1, 3) := by decide +kernel
theorem dX6_init_111 : decode cX6_init 111 = .ok (.goto (-25), 3) := by decide +kernel
theorem dX6_init_114 : decode cX6_init 114 = .ok (.return_, 1) := by decide +kernel
theorem dX6_ask_0 : decode cX6_ask 0 = .ok (.iload_n 1, 1) := by decide +kernel
theorem dX6_ask_1 : decode cX6_ask 1 = .ok (.bipush 6, 2) := by decide +kernel
theorem dX6_ask_3 : decode cX6_ask 3 = .ok (.if_icmp .ge 20, 3) := by decide +kernel
theorem dX6_ask_6 : decode cX6_ask 6 = .ok (.aload_n 0, 1) := by decide +kernel
theorem dX6_ask_7 : decode cX6_ask 7 = .ok (.iload_n 2, 1) := by decide +kernel
theorem dX6_ask_8 : decode cX6_ask 8 = .ok (.invokevirtual 51, 3) := by decide +kernel
theorem dX6_ask_11 : decode cX6_ask 11 = .ok (.ifnull 12, 3) := by decide +kernel
theorem dX6_ask_14 : decode cX6_ask 14 = .ok (.aload_n 0, 1) := by decide +kernel
theorem dX6_ask_15 : decode cX6_ask 15 = .ok (.iload 6, 2) := by decide +kernel
theorem dX6_ask_17 : decode cX6_ask 17 = .ok (.invokevirtual 51, 3) := by decide +kernel
theorem dX6_ask_20 : decode cX6_ask 20 = .ok (.ifnonnull 6, 3) := by decide +kernel
theorem dX6_ask_23 : decode cX6_ask 23 = .ok (.ldc 55, 2) := by decide +kernel
theorem dX6_ask_25 : decode cX6_ask 25 = .ok (.ireturn, 1) := by decide +kernel
theorem dX6_ask_26 : decode cX6_ask 26 = .ok (.iload 4, 2) := by decide +kernel
theorem dX6_ask_28 : decode cX6_ask 28 = .ok (.invokestatic 56, 3) := by decide +kernel
theorem dX6_ask_31 : decode cX6_ask 31 = .ok (.ifCond .eq 20, 3) := by decide +kernel
theorem dX6_ask_34 : decode cX6_ask 34 = .ok (.iload 5, 2) := by decide +kernel
theorem dX6_ask_36 : decode cX6_ask 36 = .ok (.invokestatic 56, 3) := by decide +kernel
theorem dX6_ask_39 : decode cX6_ask 39 = .ok (.ifCond .eq 12, 3) := by decide +kernel
theorem dX6_ask_42 : decode cX6_ask 42 = .ok (.iload_n 3, 1) := by decide +kernel
theorem dX6_ask_43 : decode cX6_ask 43 = .ok (.iload 7, 2) := by decide +kernel
theorem dX6_ask_45 : decode cX6_ask 45 = .ok (.invokestatic 60, 3) := by decide +kernel
theorem dX6_ask_48 : decode cX6_ask 48 = .ok (.ifCond .ne 6, 3) := by decide +kernel
theorem dX6_ask_51 : decode cX6_ask 51 = .ok (.ldc 55, 2) := by decide +kernel
theorem dX6_ask_53 : decode cX6_ask 53 = .ok (.ireturn, 1) := by decide +kernel
theorem dX6_ask_54 : decode cX6_ask 54 = .ok (.aload_n 0, 1) := by decide +kernel
theorem dX6_ask_55 : decode cX6_ask 55 = .ok (.iload_n 1, 1) := by decide +kernel
theorem dX6_ask_56 : decode cX6_ask 56 = .ok (.invokevirtual 64, 3) := by decide +kernel
theorem dX6_ask_59 : decode cX6_ask 59 = .ok (.astore 8, 2) := by decide +kernel
theorem dX6_ask_61 : decode cX6_ask 61 = .ok (.aload 8, 2) := by decide +kernel
theorem dX6_ask_63 : decode cX6_ask 63 = .ok (.ifnonnull 6, 3) := by decide +kernel
theorem dX6_ask_66 : decode cX6_ask 66 = .ok (.ldc 55, 2) := by decide +kernel
theorem dX6_ask_68 : decode cX6_ask 68 = .ok (.ireturn, 1) := by decide +kernel
theorem dX6_ask_69 : decode cX6_ask 69 = .ok (.aload 8, 2) := by decide +kernel
theorem dX6_ask_71 : decode cX6_ask 71 = .ok (.getfield 68, 3) := by decide +kernel
theorem dX6_ask_74 : decode cX6_ask 74 = .ok (.ifCond .ne 6, 3) := by decide +kernel
theorem dX6_ask_77 : decode cX6_ask 77 = .ok (.ldc 72, 2) := by decide +kernel
theorem dX6_ask_79 : decode cX6_ask 79 = .ok (.ireturn, 1) := by decide +kernel
theorem dX6_ask_80 : decode cX6_ask 80 = .ok (.aload_n 0, 1) := by decide +kernel
theorem dX6_ask_81 : decode cX6_ask 81 = .ok (.aload 8, 2) := by decide +kernel
theorem dX6_ask_83 : decode cX6_ask 83 = .ok (.iload_n 2, 1) := by decide +kernel
theorem dX6_ask_84 : decode cX6_ask 84 = .ok (.iload_n 3, 1) := by decide +kernel
theorem dX6_ask_85 : decode cX6_ask 85 = .ok (.iload 4, 2) := by decide +kernel
theorem dX6_ask_87 : decode cX6_ask 87 = .ok (.iload 5, 2) := by decide +kernel
theorem dX6_ask_89 : decode cX6_ask 89 = .ok (.iload 6, 2) := by decide +kernel
theorem dX6_ask_91 : decode cX6_ask 91 = .ok (.iload 7, 2) := by decide +kernel
theorem dX6_ask_93 : decode cX6_ask 93 = .ok (.invokevirtual 73, 3) := by decide +kernel
theorem dX6_ask_96 : decode cX6_ask 96 = .ok (.astore 9, 2) := by decide +kernel
theorem dX6_ask_98 : decode cX6_ask 98 = .ok (.aload 9, 2) := by decide +kernel
theorem dX6_ask_100 : decode cX6_ask 100 = .ok (.ifnonnull 6, 3) := by decide +kernel
theorem dX6_ask_103 : decode cX6_ask 103 = .ok (.ldc 77, 2) := by decide +kernel
theorem dX6_ask_105 : decode cX6_ask 105 = .ok (.ireturn, 1) := by decide +kernel
theorem dX6_ask_106 : decode cX6_ask 106 = .ok (.aload_n 0, 1) := by decide +kernel
theorem dX6_ask_107 : decode cX6_ask 107 = .ok (.aload 9, 2) := by decide +kernel
theorem dX6_ask_109 : decode cX6_ask 109 = .ok (.iconst 1, 1) := by decide +kernel
theorem dX6_ask_110 : decode cX6_ask 110 = .ok (.invokevirtual 78, 3) := by decide +kernel
theorem dX6_ask_113 : decode cX6_ask 113 = .ok (.pop, 1) := by decide +kernel
theorem dX6_ask_114 : decode cX6_ask 114 = .ok (.aload 9, 2) := by decide +kernel
theorem dX6_ask_116 : decode cX6_ask 116 = .ok (.getfield 82, 3) := by decide +kernel
theorem dX6_ask_119 : decode cX6_ask 119 = .ok (.ireturn, 1) := by decide +kernel
theorem dX6_again_0 : decode cX6_again 0 = .ok (.aload_n 0, 1) := by decide +kernel
theorem dX6_again_1 : decode cX6_again 1 = .ok (.iload_n 1, 1) := by decide +kernel
theorem dX6_again_2 : decode cX6_again 2 = .ok (.invokevirtual 85, 3) := by decide +kernel
theorem dX6_again_5 : decode cX6_again 5 = .ok (.astore_n 2, 1) := by decide +kernel
theorem dX6_again_6 : decode cX6_again 6 = .ok (.aload_n 2, 1) := by decide +kernel
theorem dX6_again_7 : decode cX6_again 7 = .ok (.ifnonnull 6, 3) := by decide +kernel
theorem dX6_again_10 : decode cX6_again 10 = .ok (.ldc 55, 2) := by decide +kernel
theorem dX6_again_12 : decode cX6_again 12 = .ok (.ireturn, 1) := by decide +kernel
theorem dX6_again_13 : decode cX6_again 13 = .ok (.aload_n 0, 1) := by decide +kernel
theorem dX6_again_14 : decode cX6_again 14 = .ok (.aload_n 2, 1) := by decide +kernel
theorem dX6_again_15 : decode cX6_again 15 = .ok (.getfield 89, 3) := by decide +kernel
theorem dX6_again_18 : decode cX6_again 18 = .ok (.invokevirtual 64, 3) := by decide +kernel
theorem dX6_again_21 : decode cX6_again 21 = .ok (.astore_n 3, 1) := by decide +kernel
theorem dX6_again_22 : decode cX6_again 22 = .ok (.aload_n 3, 1) := by decide +kernel
theorem dX6_again_23 : decode cX6_again 23 = .ok (.ifnull 17, 3) := by decide +kernel
theorem dX6_again_26 : decode cX6_again 26 = .ok (.aload_n 3, 1) := by decide +kernel
theorem dX6_again_27 : decode cX6_again 27 = .ok (.getfield 68, 3) := by decide +kernel
theorem dX6_again_30 : decode cX6_again 30 = .ok (.ifCond .eq 10, 3) := by decide +kernel
theorem dX6_again_33 : decode cX6_again 33 = .ok (.aload_n 2, 1) := by decide +kernel
theorem dX6_again_34 : decode cX6_again 34 = .ok (.getfield 92, 3) := by decide +kernel
theorem dX6_again_37 : decode cX6_again 37 = .ok (.ifCond .eq 6, 3) := by decide +kernel
theorem dX6_again_40 : decode cX6_again 40 = .ok (.ldc 72, 2) := by decide +kernel
theorem dX6_again_42 : decode cX6_again 42 = .ok (.ireturn, 1) := by decide +kernel
theorem dX6_again_43 : decode cX6_again 43 = .ok (.aload_n 0, 1) := by decide +kernel
theorem dX6_again_44 : decode cX6_again 44 = .ok (.getfield 30, 3) := by decide +kernel
theorem dX6_again_47 : decode cX6_again 47 = .ok (.invokevirtual 95, 3) := by decide +kernel
theorem dX6_again_50 : decode cX6_again 50 = .ok (.ifCond .eq 6, 3) := by decide +kernel
theorem dX6_again_53 : decode cX6_again 53 = .ok (.ldc 77, 2) := by decide +kernel
theorem dX6_again_55 : decode cX6_again 55 = .ok (.ireturn, 1) := by decide +kernel
theorem dX6_again_56 : decode cX6_again 56 = .ok (.aload_n 0, 1) := by decide +kernel
theorem dX6_again_57 : decode cX6_again 57 = .ok (.aload_n 2, 1) := by decide +kernel
theorem dX6_again_58 : decode cX6_again 58 = .ok (.iconst 1, 1) := by decide +kernel
theorem dX6_again_59 : decode cX6_again 59 = .ok (.invokevirtual 78, 3) := by decide +kernel
theorem dX6_again_62 : decode cX6_again 62 = .ok (.pop, 1) := by decide +kernel
theorem dX6_again_63 : decode cX6_again 63 = .ok (.aload_n 0, 1) := by decide +kernel
theorem dX6_again_64 : decode cX6_again 64 = .ok (.getfield 30, 3) := by decide +kernel
theorem dX6_again_67 : decode cX6_again 67 = .ok (.getfield 99, 3) := by decide +kernel
theorem dX6_again_70 : decode cX6_again 70 = .ok (.ireturn, 1) := by decide +kernel
theorem dX6_told_0 : decode cX6_told 0 = .ok (.aload_n 0, 1) := by decide +kernel
theorem dX6_told_1 : decode cX6_told 1 = .ok (.iload_n 1, 1) := by decide +kernel
theorem dX6_told_2 : decode cX6_told 2 = .ok (.invokevirtual 85, 3) := by decide +kernel
theorem dX6_told_5 : decode cX6_told 5 = .ok (.astore_n 3, 1) := by decide +kernel
theorem dX6_told_6 : decode cX6_told 6 = .ok (.aload_n 3, 1) := by decide +kernel
theorem dX6_told_7 : decode cX6_told 7 = .ok (.ifnonnull 6, 3) := by decide +kernel
theorem dX6_told_10 : decode cX6_told 10 = .ok (.ldc 55, 2) := by decide +kernel
theorem dX6_told_12 : decode cX6_told 12 = .ok (.ireturn, 1) := by decide +kernel
theorem dX6_told_13 : decode cX6_told 13 = .ok (.iload_n 2, 1) := by decide +kernel
theorem dX6_told_14 : decode cX6_told 14 = .ok (.tableswitch 92 0 7 #[46, 51, 56, 61, 66, 71, 76, 84], 46) := by decide +kernel
theorem dX6_told_60 : decode cX6_told 60 = .ok (.aload_n 3, 1) := by decide +kernel
theorem dX6_told_61 : decode cX6_told 61 = .ok (.getfield 89, 3) := by decide +kernel
theorem dX6_told_64 : decode cX6_told 64 = .ok (.ireturn, 1) := by decide +kernel
theorem dX6_told_65 : decode cX6_told 65 = .ok (.aload_n 3, 1) := by decide +kernel
theorem dX6_told_66 : decode cX6_told 66 = .ok (.getfield 102, 3) := by decide +kernel
theorem dX6_told_69 : decode cX6_told 69 = .ok (.ireturn, 1) := by decide +kernel
theorem dX6_told_70 : decode cX6_told 70 = .ok (.aload_n 3, 1) := by decide +kernel
theorem dX6_told_71 : decode cX6_told 71 = .ok (.getfield 105, 3) := by decide +kernel
theorem dX6_told_74 : decode cX6_told 74 = .ok (.ireturn, 1) := by decide +kernel
theorem dX6_told_75 : decode cX6_told 75 = .ok (.aload_n 3, 1) := by decide +kernel
theorem dX6_told_76 : decode cX6_told 76 = .ok (.getfield 108, 3) := by decide +kernel
theorem dX6_told_79 : decode cX6_told 79 = .ok (.ireturn, 1) := by decide +kernel
theorem dX6_told_80 : decode cX6_told 80 = .ok (.aload_n 3, 1) := by decide +kernel
theorem dX6_told_81 : decode cX6_told 81 = .ok (.getfield 111, 3) := by decide +kernel
theorem dX6_told_84 : decode cX6_told 84 = .ok (.ireturn, 1) := by decide +kernel
theorem dX6_told_85 : decode cX6_told 85 = .ok (.aload_n 3, 1) := by decide +kernel
theorem dX6_told_86 : decode cX6_told 86 = .ok (.getfield 92, 3) := by decide +kernel
theorem dX6_told_89 : decode cX6_told 89 = .ok (.ireturn, 1) := by decide +kernel
theorem dX6_told_90 : decode cX6_told 90 = .ok (.aload_n 3, 1) := by decide +kernel
theorem dX6_told_91 : decode cX6_told 91 = .ok (.getfield 114, 3) := by decide +kernel
theorem dX6_told_94 : decode cX6_told 94 = .ok (.invokestatic 118, 3) := by decide +kernel
theorem dX6_told_97 : decode cX6_told 97 = .ok (.ireturn, 1) := by decide +kernel
theorem dX6_told_98 : decode cX6_told 98 = .ok (.aload_n 3, 1) := by decide +kernel
theorem dX6_told_99 : decode cX6_told 99 = .ok (.getfield 122, 3) := by decide +kernel
theorem dX6_told_102 : decode cX6_told 102 = .ok (.invokestatic 118, 3) := by decide +kernel
theorem dX6_told_105 : decode cX6_told 105 = .ok (.ireturn, 1) := by decide +kernel
theorem dX6_told_106 : decode cX6_told 106 = .ok (.ldc 55, 2) := by decide +kernel
theorem dX6_told_108 : decode cX6_told 108 = .ok (.ireturn, 1) := by decide +kernel
theorem dX6_answer_0 : decode cX6_answer 0 = .ok (.aload_n 0, 1) := by decide +kernel
theorem dX6_answer_1 : decode cX6_answer 1 = .ok (.iload_n 1, 1) := by decide +kernel
theorem dX6_answer_2 : decode cX6_answer 2 = .ok (.invokevirtual 85, 3) := by decide +kernel
theorem dX6_answer_5 : decode cX6_answer 5 = .ok (.astore_n 2, 1) := by decide +kernel
theorem dX6_answer_6 : decode cX6_answer 6 = .ok (.aload_n 2, 1) := by decide +kernel
theorem dX6_answer_7 : decode cX6_answer 7 = .ok (.ifnonnull 7, 3) := by decide +kernel
theorem dX6_answer_10 : decode cX6_answer 10 = .ok (.ldc2_w 125, 3) := by decide +kernel
theorem dX6_answer_13 : decode cX6_answer 13 = .ok (.lreturn, 1) := by decide +kernel
theorem dX6_answer_14 : decode cX6_answer 14 = .ok (.aload_n 2, 1) := by decide +kernel
theorem dX6_answer_15 : decode cX6_answer 15 = .ok (.getfield 92, 3) := by decide +kernel
theorem dX6_answer_18 : decode cX6_answer 18 = .ok (.iconst 1, 1) := by decide +kernel
theorem dX6_answer_19 : decode cX6_answer 19 = .ok (.if_icmp .ne 10, 3) := by decide +kernel
theorem dX6_answer_22 : decode cX6_answer 22 = .ok (.aload_n 2, 1) := by decide +kernel
theorem dX6_answer_23 : decode cX6_answer 23 = .ok (.getfield 127, 3) := by decide +kernel
theorem dX6_answer_26 : decode cX6_answer 26 = .ok (.goto 6, 3) := by decide +kernel
theorem dX6_answer_29 : decode cX6_answer 29 = .ok (.ldc2_w 131, 3) := by decide +kernel
theorem dX6_answer_32 : decode cX6_answer 32 = .ok (.lreturn, 1) := by decide +kernel
theorem dX6_name_0 : decode cX6_name 0 = .ok (.aload_n 0, 1) := by decide +kernel
theorem dX6_name_1 : decode cX6_name 1 = .ok (.iload_n 1, 1) := by decide +kernel
theorem dX6_name_2 : decode cX6_name 2 = .ok (.invokevirtual 64, 3) := by decide +kernel
theorem dX6_name_5 : decode cX6_name 5 = .ok (.astore_n 3, 1) := by decide +kernel
theorem dX6_name_6 : decode cX6_name 6 = .ok (.aload_n 3, 1) := by decide +kernel
theorem dX6_name_7 : decode cX6_name 7 = .ok (.ifnonnull 6, 3) := by decide +kernel
theorem dX6_name_10 : decode cX6_name 10 = .ok (.ldc 55, 2) := by decide +kernel
theorem dX6_name_12 : decode cX6_name 12 = .ok (.ireturn, 1) := by decide +kernel
theorem dX6_name_13 : decode cX6_name 13 = .ok (.iload_n 2, 1) := by decide +kernel
theorem dX6_name_14 : decode cX6_name 14 = .ok (.tableswitch 41 0 2 #[26, 31, 36], 26) := by decide +kernel
theorem dX6_name_40 : decode cX6_name 40 = .ok (.aload_n 3, 1) := by decide +kernel
theorem dX6_name_41 : decode cX6_name 41 = .ok (.invokevirtual 133, 3) := by decide +kernel
theorem dX6_name_44 : decode cX6_name 44 = .ok (.ireturn, 1) := by decide +kernel
theorem dX6_name_45 : decode cX6_name 45 = .ok (.aload_n 3, 1) := by decide +kernel
theorem dX6_name_46 : decode cX6_name 46 = .ok (.getfield 137, 3) := by decide +kernel
theorem dX6_name_49 : decode cX6_name 49 = .ok (.ireturn, 1) := by decide +kernel
theorem dX6_name_50 : decode cX6_name 50 = .ok (.aload_n 3, 1) := by decide +kernel
theorem dX6_name_51 : decode cX6_name 51 = .ok (.getfield 138, 3) := by decide +kernel
theorem dX6_name_54 : decode cX6_name 54 = .ok (.ireturn, 1) := by decide +kernel
theorem dX6_name_55 : decode cX6_name 55 = .ok (.ldc 55, 2) := by decide +kernel
theorem dX6_name_57 : decode cX6_name 57 = .ok (.ireturn, 1) := by decide +kernel
theorem dX6_deliver_0 : decode cX6_deliver 0 = .ok (.aload_n 0, 1) := by decide +kernel
theorem dX6_deliver_1 : decode cX6_deliver 1 = .ok (.getfield 30, 3) := by decide +kernel
theorem dX6_deliver_4 : decode cX6_deliver 4 = .ok (.iload_n 1, 1) := by decide +kernel
theorem dX6_deliver_5 : decode cX6_deliver 5 = .ok (.invokevirtual 141, 3) := by decide +kernel
theorem dX6_deliver_8 : decode cX6_deliver 8 = .ok (.ifnull 12, 3) := by decide +kernel
theorem dX6_deliver_11 : decode cX6_deliver 11 = .ok (.iload_n 2, 1) := by decide +kernel
theorem dX6_deliver_12 : decode cX6_deliver 12 = .ok (.ifCond .lt 8, 3) := by decide +kernel
theorem dX6_deliver_15 : decode cX6_deliver 15 = .ok (.iload_n 2, 1) := by decide +kernel
theorem dX6_deliver_16 : decode cX6_deliver 16 = .ok (.iconst 3, 1) := by decide +kernel
theorem dX6_deliver_17 : decode cX6_deliver 17 = .ok (.if_icmp .le 6, 3) := by decide +kernel
theorem dX6_deliver_20 : decode cX6_deliver 20 = .ok (.ldc 55, 2) := by decide +kernel
theorem dX6_deliver_22 : decode cX6_deliver 22 = .ok (.ireturn, 1) := by decide +kernel
theorem dX6_deliver_23 : decode cX6_deliver 23 = .ok (.aload_n 0, 1) := by decide +kernel
theorem dX6_deliver_24 : decode cX6_deliver 24 = .ok (.iload_n 1, 1) := by decide +kernel
theorem dX6_deliver_25 : decode cX6_deliver 25 = .ok (.iload_n 2, 1) := by decide +kernel
theorem dX6_deliver_26 : decode cX6_deliver 26 = .ok (.invokevirtual 145, 3) := by decide +kernel
theorem dX6_deliver_29 : decode cX6_deliver 29 = .ok (.ireturn, 1) := by decide +kernel
theorem dX6_lose_0 : decode cX6_lose 0 = .ok (.aload_n 0, 1) := by decide +kernel
theorem dX6_lose_1 : decode cX6_lose 1 = .ok (.getfield 30, 3) := by decide +kernel
theorem dX6_lose_4 : decode cX6_lose 4 = .ok (.iload_n 1, 1) := by decide +kernel
theorem dX6_lose_5 : decode cX6_lose 5 = .ok (.invokevirtual 148, 3) := by decide +kernel
theorem dX6_lose_8 : decode cX6_lose 8 = .ok (.ifnonnull 6, 3) := by decide +kernel
theorem dX6_lose_11 : decode cX6_lose 11 = .ok (.ldc 55, 2) := by decide +kernel
theorem dX6_lose_13 : decode cX6_lose 13 = .ok (.ireturn, 1) := by decide +kernel
theorem dX6_lose_14 : decode cX6_lose 14 = .ok (.aload_n 0, 1) := by decide +kernel
theorem dX6_lose_15 : decode cX6_lose 15 = .ok (.getfield 30, 3) := by decide +kernel
theorem dX6_lose_18 : decode cX6_lose 18 = .ok (.dup, 1) := by decide +kernel
theorem dX6_lose_19 : decode cX6_lose 19 = .ok (.getfield 151, 3) := by decide +kernel
theorem dX6_lose_22 : decode cX6_lose 22 = .ok (.iconst 1, 1) := by decide +kernel
theorem dX6_lose_23 : decode cX6_lose 23 = .ok (.iadd, 1) := by decide +kernel
theorem dX6_lose_24 : decode cX6_lose 24 = .ok (.putfield 151, 3) := by decide +kernel
theorem dX6_lose_27 : decode cX6_lose 27 = .ok (.aload_n 0, 1) := by decide +kernel
theorem dX6_lose_28 : decode cX6_lose 28 = .ok (.getfield 30, 3) := by decide +kernel
theorem dX6_lose_31 : decode cX6_lose 31 = .ok (.getfield 99, 3) := by decide +kernel
theorem dX6_lose_34 : decode cX6_lose 34 = .ok (.ireturn, 1) := by decide +kernel
theorem dX6_twice_0 : decode cX6_twice 0 = .ok (.aload_n 0, 1) := by decide +kernel
theorem dX6_twice_1 : decode cX6_twice 1 = .ok (.getfield 30, 3) := by decide +kernel
theorem dX6_twice_4 : decode cX6_twice 4 = .ok (.iload_n 1, 1) := by decide +kernel
theorem dX6_twice_5 : decode cX6_twice 5 = .ok (.invokevirtual 141, 3) := by decide +kernel
theorem dX6_twice_8 : decode cX6_twice 8 = .ok (.astore_n 2, 1) := by decide +kernel
theorem dX6_twice_9 : decode cX6_twice 9 = .ok (.aload_n 2, 1) := by decide +kernel
theorem dX6_twice_10 : decode cX6_twice 10 = .ok (.ifnonnull 6, 3) := by decide +kernel
theorem dX6_twice_13 : decode cX6_twice 13 = .ok (.ldc 55, 2) := by decide +kernel
theorem dX6_twice_15 : decode cX6_twice 15 = .ok (.ireturn, 1) := by decide +kernel
theorem dX6_twice_16 : decode cX6_twice 16 = .ok (.aload_n 0, 1) := by decide +kernel
theorem dX6_twice_17 : decode cX6_twice 17 = .ok (.getfield 30, 3) := by decide +kernel
theorem dX6_twice_20 : decode cX6_twice 20 = .ok (.invokevirtual 95, 3) := by decide +kernel
theorem dX6_twice_23 : decode cX6_twice 23 = .ok (.ifCond .eq 6, 3) := by decide +kernel
theorem dX6_twice_26 : decode cX6_twice 26 = .ok (.ldc 77, 2) := by decide +kernel
theorem dX6_twice_28 : decode cX6_twice 28 = .ok (.ireturn, 1) := by decide +kernel
theorem dX6_twice_29 : decode cX6_twice 29 = .ok (.aload_n 0, 1) := by decide +kernel
theorem dX6_twice_30 : decode cX6_twice 30 = .ok (.getfield 30, 3) := by decide +kernel
theorem dX6_twice_33 : decode cX6_twice 33 = .ok (.invokevirtual 154, 3) := by decide +kernel
theorem dX6_twice_36 : decode cX6_twice 36 = .ok (.astore_n 3, 1) := by decide +kernel
theorem dX6_twice_37 : decode cX6_twice 37 = .ok (.aload_n 3, 1) := by decide +kernel
theorem dX6_twice_38 : decode cX6_twice 38 = .ok (.ifnull 8, 3) := by decide +kernel
theorem dX6_twice_41 : decode cX6_twice 41 = .ok (.aload_n 3, 1) := by decide +kernel
theorem dX6_twice_42 : decode cX6_twice 42 = .ok (.aload_n 2, 1) := by decide +kernel
theorem dX6_twice_43 : decode cX6_twice 43 = .ok (.invokevirtual 158, 3) := by decide +kernel
theorem dX6_twice_46 : decode cX6_twice 46 = .ok (.aload_n 0, 1) := by decide +kernel
theorem dX6_twice_47 : decode cX6_twice 47 = .ok (.getfield 30, 3) := by decide +kernel
theorem dX6_twice_50 : decode cX6_twice 50 = .ok (.getfield 99, 3) := by decide +kernel
theorem dX6_twice_53 : decode cX6_twice 53 = .ok (.ireturn, 1) := by decide +kernel
theorem dX6_bend_0 : decode cX6_bend 0 = .ok (.aload_n 0, 1) := by decide +kernel
theorem dX6_bend_1 : decode cX6_bend 1 = .ok (.getfield 30, 3) := by decide +kernel
theorem dX6_bend_4 : decode cX6_bend 4 = .ok (.iload_n 1, 1) := by decide +kernel
theorem dX6_bend_5 : decode cX6_bend 5 = .ok (.invokevirtual 141, 3) := by decide +kernel
theorem dX6_bend_8 : decode cX6_bend 8 = .ok (.astore_n 2, 1) := by decide +kernel
theorem dX6_bend_9 : decode cX6_bend 9 = .ok (.aload_n 2, 1) := by decide +kernel
theorem dX6_bend_10 : decode cX6_bend 10 = .ok (.ifnonnull 6, 3) := by decide +kernel
theorem dX6_bend_13 : decode cX6_bend 13 = .ok (.ldc 55, 2) := by decide +kernel
theorem dX6_bend_15 : decode cX6_bend 15 = .ok (.ireturn, 1) := by decide +kernel
theorem dX6_bend_16 : decode cX6_bend 16 = .ok (.aload_n 2, 1) := by decide +kernel
theorem dX6_bend_17 : decode cX6_bend 17 = .ok (.getfield 164, 3) := by decide +kernel
theorem dX6_bend_20 : decode cX6_bend 20 = .ok (.ifCond .eq 5, 3) := by decide +kernel
theorem dX6_bend_23 : decode cX6_bend 23 = .ok (.iconst 0, 1) := by decide +kernel
theorem dX6_bend_24 : decode cX6_bend 24 = .ok (.ireturn, 1) := by decide +kernel
theorem dX6_bend_25 : decode cX6_bend 25 = .ok (.aload_n 2, 1) := by decide +kernel
theorem dX6_bend_26 : decode cX6_bend 26 = .ok (.iconst 1, 1) := by decide +kernel
theorem dX6_bend_27 : decode cX6_bend 27 = .ok (.putfield 164, 3) := by decide +kernel
theorem dX6_bend_30 : decode cX6_bend 30 = .ok (.iconst 1, 1) := by decide +kernel
theorem dX6_bend_31 : decode cX6_bend 31 = .ok (.ireturn, 1) := by decide +kernel
theorem dX6_letter_0 : decode cX6_letter 0 = .ok (.iload_n 2, 1) := by decide +kernel
theorem dX6_letter_1 : decode cX6_letter 1 = .ok (.ifCond .lt 8, 3) := by decide +kernel
theorem dX6_letter_4 : decode cX6_letter 4 = .ok (.iload_n 2, 1) := by decide +kernel
theorem dX6_letter_5 : decode cX6_letter 5 = .ok (.iconst 4, 1) := by decide +kernel
theorem dX6_letter_6 : decode cX6_letter 6 = .ok (.if_icmp .le 6, 3) := by decide +kernel
theorem dX6_letter_9 : decode cX6_letter 9 = .ok (.ldc 55, 2) := by decide +kernel
theorem dX6_letter_11 : decode cX6_letter 11 = .ok (.ireturn, 1) := by decide +kernel
theorem dX6_letter_12 : decode cX6_letter 12 = .ok (.aload_n 0, 1) := by decide +kernel
theorem dX6_letter_13 : decode cX6_letter 13 = .ok (.getfield 30, 3) := by decide +kernel
theorem dX6_letter_16 : decode cX6_letter 16 = .ok (.iload_n 1, 1) := by decide +kernel
theorem dX6_letter_17 : decode cX6_letter 17 = .ok (.invokevirtual 141, 3) := by decide +kernel
theorem dX6_letter_20 : decode cX6_letter 20 = .ok (.astore_n 3, 1) := by decide +kernel
theorem dX6_letter_21 : decode cX6_letter 21 = .ok (.aload_n 3, 1) := by decide +kernel
theorem dX6_letter_22 : decode cX6_letter 22 = .ok (.ifnonnull 5, 3) := by decide +kernel
theorem dX6_letter_25 : decode cX6_letter 25 = .ok (.iconst (-1), 1) := by decide +kernel
theorem dX6_letter_26 : decode cX6_letter 26 = .ok (.ireturn, 1) := by decide +kernel
theorem dX6_letter_27 : decode cX6_letter 27 = .ok (.iload_n 2, 1) := by decide +kernel
theorem dX6_letter_28 : decode cX6_letter 28 = .ok (.tableswitch 82 0 3 #[32, 40, 53, 69], 32) := by decide +kernel
theorem dX6_letter_60 : decode cX6_letter 60 = .ok (.aload_n 3, 1) := by decide +kernel
theorem dX6_letter_61 : decode cX6_letter 61 = .ok (.getfield 167, 3) := by decide +kernel
theorem dX6_letter_64 : decode cX6_letter 64 = .ok (.invokestatic 118, 3) := by decide +kernel
theorem dX6_letter_67 : decode cX6_letter 67 = .ok (.ireturn, 1) := by decide +kernel
theorem dX6_letter_68 : decode cX6_letter 68 = .ok (.aload_n 3, 1) := by decide +kernel
theorem dX6_letter_69 : decode cX6_letter 69 = .ok (.getfield 170, 3) := by decide +kernel
theorem dX6_letter_72 : decode cX6_letter 72 = .ok (.ifCond .eq 7, 3) := by decide +kernel
theorem dX6_letter_75 : decode cX6_letter 75 = .ok (.iconst 1, 1) := by decide +kernel
theorem dX6_letter_76 : decode cX6_letter 76 = .ok (.goto 4, 3) := by decide +kernel
theorem dX6_letter_79 : decode cX6_letter 79 = .ok (.iconst 0, 1) := by decide +kernel
theorem dX6_letter_80 : decode cX6_letter 80 = .ok (.ireturn, 1) := by decide +kernel
theorem dX6_letter_81 : decode cX6_letter 81 = .ok (.aload_n 3, 1) := by decide +kernel
theorem dX6_letter_82 : decode cX6_letter 82 = .ok (.getfield 170, 3) := by decide +kernel
theorem dX6_letter_85 : decode cX6_letter 85 = .ok (.ifCond .eq 7, 3) := by decide +kernel
theorem dX6_letter_88 : decode cX6_letter 88 = .ok (.iconst (-1), 1) := by decide +kernel
theorem dX6_letter_89 : decode cX6_letter 89 = .ok (.goto 7, 3) := by decide +kernel
theorem dX6_letter_92 : decode cX6_letter 92 = .ok (.aload_n 3, 1) := by decide +kernel
theorem dX6_letter_93 : decode cX6_letter 93 = .ok (.getfield 173, 3) := by decide +kernel
theorem dX6_letter_96 : decode cX6_letter 96 = .ok (.ireturn, 1) := by decide +kernel
theorem dX6_letter_97 : decode cX6_letter 97 = .ok (.aload_n 3, 1) := by decide +kernel
theorem dX6_letter_98 : decode cX6_letter 98 = .ok (.getfield 164, 3) := by decide +kernel
theorem dX6_letter_101 : decode cX6_letter 101 = .ok (.ifCond .eq 7, 3) := by decide +kernel
theorem dX6_letter_104 : decode cX6_letter 104 = .ok (.iconst 1, 1) := by decide +kernel
theorem dX6_letter_105 : decode cX6_letter 105 = .ok (.goto 4, 3) := by decide +kernel
theorem dX6_letter_108 : decode cX6_letter 108 = .ok (.iconst 0, 1) := by decide +kernel
theorem dX6_letter_109 : decode cX6_letter 109 = .ok (.ireturn, 1) := by decide +kernel
theorem dX6_letter_110 : decode cX6_letter 110 = .ok (.aload_n 3, 1) := by decide +kernel
theorem dX6_letter_111 : decode cX6_letter 111 = .ok (.getfield 176, 3) := by decide +kernel
theorem dX6_letter_114 : decode cX6_letter 114 = .ok (.ifCond .eq 7, 3) := by decide +kernel
theorem dX6_letter_117 : decode cX6_letter 117 = .ok (.iconst 1, 1) := by decide +kernel
theorem dX6_letter_118 : decode cX6_letter 118 = .ok (.goto 4, 3) := by decide +kernel
theorem dX6_letter_121 : decode cX6_letter 121 = .ok (.iconst 0, 1) := by decide +kernel
theorem dX6_letter_122 : decode cX6_letter 122 = .ok (.ireturn, 1) := by decide +kernel
theorem dX6_flow_0 : decode cX6_flow 0 = .ok (.iload_n 1, 1) := by decide +kernel
theorem dX6_flow_1 : decode cX6_flow 1 = .ok (.iconst 1, 1) := by decide +kernel
theorem dX6_flow_2 : decode cX6_flow 2 = .ok (.if_icmp .lt 10, 3) := by decide +kernel
theorem dX6_flow_5 : decode cX6_flow 5 = .ok (.iload_n 1, 1) := by decide +kernel
theorem dX6_flow_6 : decode cX6_flow 6 = .ok (.sipush 200, 3) := by decide +kernel
theorem dX6_flow_9 : decode cX6_flow 9 = .ok (.if_icmp .le 6, 3) := by decide +kernel
theorem dX6_flow_12 : decode cX6_flow 12 = .ok (.ldc 55, 2) := by decide +kernel
theorem dX6_flow_14 : decode cX6_flow 14 = .ok (.ireturn, 1) := by decide +kernel
theorem dX6_flow_15 : decode cX6_flow 15 = .ok (.iconst 0, 1) := by decide +kernel
theorem dX6_flow_16 : decode cX6_flow 16 = .ok (.istore_n 2, 1) := by decide +kernel
theorem dX6_flow_17 : decode cX6_flow 17 = .ok (.iload_n 2, 1) := by decide +kernel
theorem dX6_flow_18 : decode cX6_flow 18 = .ok (.iload_n 1, 1) := by decide +kernel
theorem dX6_flow_19 : decode cX6_flow 19 = .ok (.if_icmp .ge 26, 3) := by decide +kernel
theorem dX6_flow_22 : decode cX6_flow 22 = .ok (.aload_n 0, 1) := by decide +kernel
theorem dX6_flow_23 : decode cX6_flow 23 = .ok (.getfield 30, 3) := by decide +kernel
theorem dX6_flow_26 : decode cX6_flow 26 = .ok (.getfield 99, 3) := by decide +kernel
theorem dX6_flow_29 : decode cX6_flow 29 = .ok (.ifCond .le 16, 3) := by decide +kernel
theorem dX6_flow_32 : decode cX6_flow 32 = .ok (.aload_n 0, 1) := by decide +kernel
theorem dX6_flow_33 : decode cX6_flow 33 = .ok (.iconst 0, 1) := by decide +kernel
theorem dX6_flow_34 : decode cX6_flow 34 = .ok (.iconst 3, 1) := by decide +kernel
theorem dX6_flow_35 : decode cX6_flow 35 = .ok (.invokevirtual 145, 3) := by decide +kernel
theorem dX6_flow_38 : decode cX6_flow 38 = .ok (.pop, 1) := by decide +kernel
theorem dX6_flow_39 : decode cX6_flow 39 = .ok (.iinc 2 1, 3) := by decide +kernel
theorem dX6_flow_42 : decode cX6_flow 42 = .ok (.goto (-25), 3) := by decide +kernel
theorem dX6_flow_45 : decode cX6_flow 45 = .ok (.iload_n 2, 1) := by decide +kernel
theorem dX6_flow_46 : decode cX6_flow 46 = .ok (.ireturn, 1) := by decide +kernel
theorem dX6_fall_0 : decode cX6_fall 0 = .ok (.aload_n 0, 1) := by decide +kernel
theorem dX6_fall_1 : decode cX6_fall 1 = .ok (.iload_n 1, 1) := by decide +kernel
theorem dX6_fall_2 : decode cX6_fall 2 = .ok (.invokevirtual 64, 3) := by decide +kernel
theorem dX6_fall_5 : decode cX6_fall 5 = .ok (.astore_n 2, 1) := by decide +kernel
theorem dX6_fall_6 : decode cX6_fall 6 = .ok (.aload_n 2, 1) := by decide +kernel
theorem dX6_fall_7 : decode cX6_fall 7 = .ok (.ifnonnull 6, 3) := by decide +kernel
theorem dX6_fall_10 : decode cX6_fall 10 = .ok (.ldc 55, 2) := by decide +kernel
theorem dX6_fall_12 : decode cX6_fall 12 = .ok (.ireturn, 1) := by decide +kernel
theorem dX6_fall_13 : decode cX6_fall 13 = .ok (.aload_n 2, 1) := by decide +kernel
theorem dX6_fall_14 : decode cX6_fall 14 = .ok (.getfield 68, 3) := by decide +kernel
theorem dX6_fall_17 : decode cX6_fall 17 = .ok (.ifCond .ne 6, 3) := by decide +kernel
theorem dX6_fall_20 : decode cX6_fall 20 = .ok (.ldc 72, 2) := by decide +kernel
theorem dX6_fall_22 : decode cX6_fall 22 = .ok (.ireturn, 1) := by decide +kernel
theorem dX6_fall_23 : decode cX6_fall 23 = .ok (.aload_n 0, 1) := by decide +kernel
theorem dX6_fall_24 : decode cX6_fall 24 = .ok (.aload_n 2, 1) := by decide +kernel
theorem dX6_fall_25 : decode cX6_fall 25 = .ok (.invokevirtual 179, 3) := by decide +kernel
theorem dX6_fall_28 : decode cX6_fall 28 = .ok (.iconst 1, 1) := by decide +kernel
theorem dX6_fall_29 : decode cX6_fall 29 = .ok (.ireturn, 1) := by decide +kernel
theorem dX6_rise_0 : decode cX6_rise 0 = .ok (.aload_n 0, 1) := by decide +kernel
theorem dX6_rise_1 : decode cX6_rise 1 = .ok (.iload_n 1, 1) := by decide +kernel
theorem dX6_rise_2 : decode cX6_rise 2 = .ok (.invokevirtual 64, 3) := by decide +kernel
theorem dX6_rise_5 : decode cX6_rise 5 = .ok (.astore_n 2, 1) := by decide +kernel
theorem dX6_rise_6 : decode cX6_rise 6 = .ok (.aload_n 2, 1) := by decide +kernel
theorem dX6_rise_7 : decode cX6_rise 7 = .ok (.ifnonnull 6, 3) := by decide +kernel
theorem dX6_rise_10 : decode cX6_rise 10 = .ok (.ldc 55, 2) := by decide +kernel
theorem dX6_rise_12 : decode cX6_rise 12 = .ok (.ireturn, 1) := by decide +kernel
theorem dX6_rise_13 : decode cX6_rise 13 = .ok (.aload_n 2, 1) := by decide +kernel
theorem dX6_rise_14 : decode cX6_rise 14 = .ok (.getfield 68, 3) := by decide +kernel
theorem dX6_rise_17 : decode cX6_rise 17 = .ok (.ifCond .eq 6, 3) := by decide +kernel
theorem dX6_rise_20 : decode cX6_rise 20 = .ok (.ldc 72, 2) := by decide +kernel
theorem dX6_rise_22 : decode cX6_rise 22 = .ok (.ireturn, 1) := by decide +kernel
theorem dX6_rise_23 : decode cX6_rise 23 = .ok (.aload_n 2, 1) := by decide +kernel
theorem dX6_rise_24 : decode cX6_rise 24 = .ok (.iconst 1, 1) := by decide +kernel
theorem dX6_rise_25 : decode cX6_rise 25 = .ok (.putfield 68, 3) := by decide +kernel
theorem dX6_rise_28 : decode cX6_rise 28 = .ok (.aload_n 2, 1) := by decide +kernel
theorem dX6_rise_29 : decode cX6_rise 29 = .ok (.getfield 183, 3) := by decide +kernel
theorem dX6_rise_32 : decode cX6_rise 32 = .ok (.bipush 6, 2) := by decide +kernel
theorem dX6_rise_34 : decode cX6_rise 34 = .ok (.if_icmp .ge 7, 3) := by decide +kernel
theorem dX6_rise_37 : decode cX6_rise 37 = .ok (.aload_n 2, 1) := by decide +kernel
theorem dX6_rise_38 : decode cX6_rise 38 = .ok (.invokevirtual 184, 3) := by decide +kernel
theorem dX6_rise_41 : decode cX6_rise 41 = .ok (.aload_n 2, 1) := by decide +kernel
theorem dX6_rise_42 : decode cX6_rise 42 = .ok (.getfield 137, 3) := by decide +kernel
theorem dX6_rise_45 : decode cX6_rise 45 = .ok (.ireturn, 1) := by decide +kernel
theorem dX6_account_0 : decode cX6_account 0 = .ok (.aload_n 0, 1) := by decide +kernel
theorem dX6_account_1 : decode cX6_account 1 = .ok (.iload_n 1, 1) := by decide +kernel
theorem dX6_account_2 : decode cX6_account 2 = .ok (.invokevirtual 51, 3) := by decide +kernel
theorem dX6_account_5 : decode cX6_account 5 = .ok (.astore_n 3, 1) := by decide +kernel
theorem dX6_account_6 : decode cX6_account 6 = .ok (.aload_n 3, 1) := by decide +kernel
theorem dX6_account_7 : decode cX6_account 7 = .ok (.ifnull 10, 3) := by decide +kernel
theorem dX6_account_10 : decode cX6_account 10 = .ok (.iload_n 2, 1) := by decide +kernel
theorem dX6_account_11 : decode cX6_account 11 = .ok (.invokestatic 56, 3) := by decide +kernel
theorem dX6_account_14 : decode cX6_account 14 = .ok (.ifCond .ne 7, 3) := by decide +kernel
theorem dX6_account_17 : decode cX6_account 17 = .ok (.ldc2_w 125, 3) := by decide +kernel
theorem dX6_account_20 : decode cX6_account 20 = .ok (.lreturn, 1) := by decide +kernel
theorem dX6_account_21 : decode cX6_account 21 = .ok (.aload_n 3, 1) := by decide +kernel
theorem dX6_account_22 : decode cX6_account 22 = .ok (.iload_n 2, 1) := by decide +kernel
theorem dX6_account_23 : decode cX6_account 23 = .ok (.invokevirtual 187, 3) := by decide +kernel
theorem dX6_account_26 : decode cX6_account 26 = .ok (.lreturn, 1) := by decide +kernel
theorem dX6_kept_0 : decode cX6_kept 0 = .ok (.aload_n 0, 1) := by decide +kernel
theorem dX6_kept_1 : decode cX6_kept 1 = .ok (.iload_n 1, 1) := by decide +kernel
theorem dX6_kept_2 : decode cX6_kept 2 = .ok (.iload_n 2, 1) := by decide +kernel
theorem dX6_kept_3 : decode cX6_kept 3 = .ok (.invokevirtual 191, 3) := by decide +kernel
theorem dX6_kept_6 : decode cX6_kept 6 = .ok (.astore 4, 2) := by decide +kernel
theorem dX6_kept_8 : decode cX6_kept 8 = .ok (.aload 4, 2) := by decide +kernel
theorem dX6_kept_10 : decode cX6_kept 10 = .ok (.ifnonnull 6, 3) := by decide +kernel
theorem dX6_kept_13 : decode cX6_kept 13 = .ok (.ldc 55, 2) := by decide +kernel
theorem dX6_kept_15 : decode cX6_kept 15 = .ok (.ireturn, 1) := by decide +kernel
theorem dX6_kept_16 : decode cX6_kept 16 = .ok (.iload_n 3, 1) := by decide +kernel
theorem dX6_kept_17 : decode cX6_kept 17 = .ok (.tableswitch 45 0 2 #[27, 33, 39], 27) := by decide +kernel
theorem dX6_kept_44 : decode cX6_kept 44 = .ok (.aload 4, 2) := by decide +kernel
theorem dX6_kept_46 : decode cX6_kept 46 = .ok (.getfield 195, 3) := by decide +kernel
theorem dX6_kept_49 : decode cX6_kept 49 = .ok (.ireturn, 1) := by decide +kernel
theorem dX6_kept_50 : decode cX6_kept 50 = .ok (.aload 4, 2) := by decide +kernel
theorem dX6_kept_52 : decode cX6_kept 52 = .ok (.getfield 198, 3) := by decide +kernel
theorem dX6_kept_55 : decode cX6_kept 55 = .ok (.ireturn, 1) := by decide +kernel
theorem dX6_kept_56 : decode cX6_kept 56 = .ok (.aload 4, 2) := by decide +kernel
theorem dX6_kept_58 : decode cX6_kept 58 = .ok (.getfield 201, 3) := by decide +kernel
theorem dX6_kept_61 : decode cX6_kept 61 = .ok (.ireturn, 1) := by decide +kernel
theorem dX6_kept_62 : decode cX6_kept 62 = .ok (.ldc 55, 2) := by decide +kernel
theorem dX6_kept_64 : decode cX6_kept 64 = .ok (.ireturn, 1) := by decide +kernel
theorem dX6_record_0 : decode cX6_record 0 = .ok (.aload_n 0, 1) := by decide +kernel
theorem dX6_record_1 : decode cX6_record 1 = .ok (.iload_n 1, 1) := by decide +kernel
theorem dX6_record_2 : decode cX6_record 2 = .ok (.iload_n 2, 1) := by decide +kernel
theorem dX6_record_3 : decode cX6_record 3 = .ok (.invokevirtual 191, 3) := by decide +kernel
theorem dX6_record_6 : decode cX6_record 6 = .ok (.astore 4, 2) := by decide +kernel
theorem dX6_record_8 : decode cX6_record 8 = .ok (.aload 4, 2) := by decide +kernel
theorem dX6_record_10 : decode cX6_record 10 = .ok (.ifnonnull 8, 3) := by decide +kernel
theorem dX6_record_13 : decode cX6_record 13 = .ok (.ldc 55, 2) := by decide +kernel
theorem dX6_record_15 : decode cX6_record 15 = .ok (.goto 9, 3) := by decide +kernel
theorem dX6_record_18 : decode cX6_record 18 = .ok (.aload 4, 2) := by decide +kernel
theorem dX6_record_20 : decode cX6_record 20 = .ok (.iload_n 3, 1) := by decide +kernel
theorem dX6_record_21 : decode cX6_record 21 = .ok (.invokevirtual 204, 3) := by decide +kernel
theorem dX6_record_24 : decode cX6_record 24 = .ok (.ireturn, 1) := by decide +kernel
theorem dX6_leave_0 : decode cX6_leave 0 = .ok (.aload_n 0, 1) := by decide +kernel
theorem dX6_leave_1 : decode cX6_leave 1 = .ok (.iload_n 1, 1) := by decide +kernel
theorem dX6_leave_2 : decode cX6_leave 2 = .ok (.iload_n 2, 1) := by decide +kernel
theorem dX6_leave_3 : decode cX6_leave 3 = .ok (.invokevirtual 191, 3) := by decide +kernel
theorem dX6_leave_6 : decode cX6_leave 6 = .ok (.astore_n 3, 1) := by decide +kernel
theorem dX6_leave_7 : decode cX6_leave 7 = .ok (.aload_n 0, 1) := by decide +kernel
theorem dX6_leave_8 : decode cX6_leave 8 = .ok (.bipush 6, 2) := by decide +kernel
theorem dX6_leave_10 : decode cX6_leave 10 = .ok (.iload_n 1, 1) := by decide +kernel
theorem dX6_leave_11 : decode cX6_leave 11 = .ok (.iadd, 1) := by decide +kernel
theorem dX6_leave_12 : decode cX6_leave 12 = .ok (.invokevirtual 64, 3) := by decide +kernel
theorem dX6_leave_15 : decode cX6_leave 15 = .ok (.astore 4, 2) := by decide +kernel
theorem dX6_leave_17 : decode cX6_leave 17 = .ok (.aload_n 3, 1) := by decide +kernel
theorem dX6_leave_18 : decode cX6_leave 18 = .ok (.ifnull 14, 3) := by decide +kernel
theorem dX6_leave_21 : decode cX6_leave 21 = .ok (.aload 4, 2) := by decide +kernel
theorem dX6_leave_23 : decode cX6_leave 23 = .ok (.ifnull 9, 3) := by decide +kernel
theorem dX6_leave_26 : decode cX6_leave 26 = .ok (.iload_n 2, 1) := by decide +kernel
theorem dX6_leave_27 : decode cX6_leave 27 = .ok (.bipush 6, 2) := by decide +kernel
theorem dX6_leave_29 : decode cX6_leave 29 = .ok (.if_icmp .lt 6, 3) := by decide +kernel
theorem dX6_leave_32 : decode cX6_leave 32 = .ok (.ldc 55, 2) := by decide +kernel
theorem dX6_leave_34 : decode cX6_leave 34 = .ok (.ireturn, 1) := by decide +kernel
theorem dX6_leave_35 : decode cX6_leave 35 = .ok (.aload 4, 2) := by decide +kernel
theorem dX6_leave_37 : decode cX6_leave 37 = .ok (.getfield 68, 3) := by decide +kernel
theorem dX6_leave_40 : decode cX6_leave 40 = .ok (.ifCond .eq 10, 3) := by decide +kernel
theorem dX6_leave_43 : decode cX6_leave 43 = .ok (.aload_n 3, 1) := by decide +kernel
theorem dX6_leave_44 : decode cX6_leave 44 = .ok (.invokevirtual 208, 3) := by decide +kernel
theorem dX6_leave_47 : decode cX6_leave 47 = .ok (.ifCond .eq 6, 3) := by decide +kernel
theorem dX6_leave_50 : decode cX6_leave 50 = .ok (.ldc 72, 2) := by decide +kernel
theorem dX6_leave_52 : decode cX6_leave 52 = .ok (.ireturn, 1) := by decide +kernel
theorem dX6_leave_53 : decode cX6_leave 53 = .ok (.aload_n 3, 1) := by decide +kernel
theorem dX6_leave_54 : decode cX6_leave 54 = .ok (.getfield 201, 3) := by decide +kernel
theorem dX6_leave_57 : decode cX6_leave 57 = .ok (.istore 5, 2) := by decide +kernel
theorem dX6_leave_59 : decode cX6_leave 59 = .ok (.aload_n 3, 1) := by decide +kernel
theorem dX6_leave_60 : decode cX6_leave 60 = .ok (.aload_n 3, 1) := by decide +kernel
theorem dX6_leave_61 : decode cX6_leave 61 = .ok (.getfield 195, 3) := by decide +kernel
theorem dX6_leave_64 : decode cX6_leave 64 = .ok (.iconst 1, 1) := by decide +kernel
theorem dX6_leave_65 : decode cX6_leave 65 = .ok (.iadd, 1) := by decide +kernel
theorem dX6_leave_66 : decode cX6_leave 66 = .ok (.invokevirtual 211, 3) := by decide +kernel
theorem dX6_leave_69 : decode cX6_leave 69 = .ok (.iload 5, 2) := by decide +kernel
theorem dX6_leave_71 : decode cX6_leave 71 = .ok (.ireturn, 1) := by decide +kernel
theorem dX6_times_0 : decode cX6_times 0 = .ok (.aload_n 0, 1) := by decide +kernel
theorem dX6_times_1 : decode cX6_times 1 = .ok (.iload_n 1, 1) := by decide +kernel
theorem dX6_times_2 : decode cX6_times 2 = .ok (.invokevirtual 85, 3) := by decide +kernel
theorem dX6_times_5 : decode cX6_times 5 = .ok (.astore_n 2, 1) := by decide +kernel
theorem dX6_times_6 : decode cX6_times 6 = .ok (.aload_n 2, 1) := by decide +kernel
theorem dX6_times_7 : decode cX6_times 7 = .ok (.ifnonnull 6, 3) := by decide +kernel
theorem dX6_times_10 : decode cX6_times 10 = .ok (.ldc 55, 2) := by decide +kernel
theorem dX6_times_12 : decode cX6_times 12 = .ok (.ireturn, 1) := by decide +kernel
theorem dX6_times_13 : decode cX6_times 13 = .ok (.aload_n 2, 1) := by decide +kernel
theorem dX6_times_14 : decode cX6_times 14 = .ok (.getfield 213, 3) := by decide +kernel
theorem dX6_times_17 : decode cX6_times 17 = .ok (.ifCond .eq 7, 3) := by decide +kernel
theorem dX6_times_20 : decode cX6_times 20 = .ok (.iconst 1, 1) := by decide +kernel
theorem dX6_times_21 : decode cX6_times 21 = .ok (.goto 4, 3) := by decide +kernel
theorem dX6_times_24 : decode cX6_times 24 = .ok (.iconst 0, 1) := by decide +kernel
theorem dX6_times_25 : decode cX6_times 25 = .ok (.ireturn, 1) := by decide +kernel
theorem dX6_audit_0 : decode cX6_audit 0 = .ok (.iload_n 1, 1) := by decide +kernel
theorem dX6_audit_1 : decode cX6_audit 1 = .ok (.tableswitch 42 0 2 #[27, 32, 37], 27) := by decide +kernel
theorem dX6_audit_28 : decode cX6_audit 28 = .ok (.aload_n 0, 1) := by decide +kernel
theorem dX6_audit_29 : decode cX6_audit 29 = .ok (.invokevirtual 216, 3) := by decide +kernel
theorem dX6_audit_32 : decode cX6_audit 32 = .ok (.lreturn, 1) := by decide +kernel
theorem dX6_audit_33 : decode cX6_audit 33 = .ok (.aload_n 0, 1) := by decide +kernel
theorem dX6_audit_34 : decode cX6_audit 34 = .ok (.invokevirtual 220, 3) := by decide +kernel
theorem dX6_audit_37 : decode cX6_audit 37 = .ok (.lreturn, 1) := by decide +kernel
theorem dX6_audit_38 : decode cX6_audit 38 = .ok (.aload_n 0, 1) := by decide +kernel
theorem dX6_audit_39 : decode cX6_audit 39 = .ok (.invokevirtual 223, 3) := by decide +kernel
theorem dX6_audit_42 : decode cX6_audit 42 = .ok (.lreturn, 1) := by decide +kernel
theorem dX6_audit_43 : decode cX6_audit 43 = .ok (.ldc2_w 125, 3) := by decide +kernel
theorem dX6_audit_46 : decode cX6_audit 46 = .ok (.lreturn, 1) := by decide +kernel
theorem dX6_witness_0 : decode cX6_witness 0 = .ok (.aload_n 0, 1) := by decide +kernel
theorem dX6_witness_1 : decode cX6_witness 1 = .ok (.iload_n 1, 1) := by decide +kernel
theorem dX6_witness_2 : decode cX6_witness 2 = .ok (.invokevirtual 85, 3) := by decide +kernel
theorem dX6_witness_5 : decode cX6_witness 5 = .ok (.astore_n 2, 1) := by decide +kernel
theorem dX6_witness_6 : decode cX6_witness 6 = .ok (.aload_n 2, 1) := by decide +kernel
theorem dX6_witness_7 : decode cX6_witness 7 = .ok (.ifnonnull 7, 3) := by decide +kernel
theorem dX6_witness_10 : decode cX6_witness 10 = .ok (.ldc2_w 125, 3) := by decide +kernel
theorem dX6_witness_13 : decode cX6_witness 13 = .ok (.lreturn, 1) := by decide +kernel
theorem dX6_witness_14 : decode cX6_witness 14 = .ok (.aload_n 2, 1) := by decide +kernel
theorem dX6_witness_15 : decode cX6_witness 15 = .ok (.getfield 92, 3) := by decide +kernel
theorem dX6_witness_18 : decode cX6_witness 18 = .ok (.iconst 1, 1) := by decide +kernel
theorem dX6_witness_19 : decode cX6_witness 19 = .ok (.if_icmp .ne 10, 3) := by decide +kernel
theorem dX6_witness_22 : decode cX6_witness 22 = .ok (.aload_n 2, 1) := by decide +kernel
theorem dX6_witness_23 : decode cX6_witness 23 = .ok (.invokevirtual 226, 3) := by decide +kernel
theorem dX6_witness_26 : decode cX6_witness 26 = .ok (.goto 6, 3) := by decide +kernel
theorem dX6_witness_29 : decode cX6_witness 29 = .ok (.ldc2_w 131, 3) := by decide +kernel
theorem dX6_witness_32 : decode cX6_witness 32 = .ok (.lreturn, 1) := by decide +kernel
theorem dX6_check_0 : decode cX6_check 0 = .ok (.aload_n 0, 1) := by decide +kernel
theorem dX6_check_1 : decode cX6_check 1 = .ok (.iload_n 1, 1) := by decide +kernel
theorem dX6_check_2 : decode cX6_check 2 = .ok (.invokevirtual 85, 3) := by decide +kernel
theorem dX6_check_5 : decode cX6_check 5 = .ok (.astore 4, 2) := by decide +kernel
theorem dX6_check_7 : decode cX6_check 7 = .ok (.aload 4, 2) := by decide +kernel
theorem dX6_check_9 : decode cX6_check 9 = .ok (.ifnonnull 6, 3) := by decide +kernel
theorem dX6_check_12 : decode cX6_check 12 = .ok (.ldc 55, 2) := by decide +kernel
theorem dX6_check_14 : decode cX6_check 14 = .ok (.ireturn, 1) := by decide +kernel
theorem dX6_check_15 : decode cX6_check 15 = .ok (.aload 4, 2) := by decide +kernel
theorem dX6_check_17 : decode cX6_check 17 = .ok (.getfield 92, 3) := by decide +kernel
theorem dX6_check_20 : decode cX6_check 20 = .ok (.iconst 1, 1) := by decide +kernel
theorem dX6_check_21 : decode cX6_check 21 = .ok (.if_icmp .ne 17, 3) := by decide +kernel
theorem dX6_check_24 : decode cX6_check 24 = .ok (.aload 4, 2) := by decide +kernel
theorem dX6_check_26 : decode cX6_check 26 = .ok (.invokevirtual 226, 3) := by decide +kernel
theorem dX6_check_29 : decode cX6_check 29 = .ok (.lload_n 2, 1) := by decide +kernel
theorem dX6_check_30 : decode cX6_check 30 = .ok (.lcmp, 1) := by decide +kernel
theorem dX6_check_31 : decode cX6_check 31 = .ok (.ifCond .ne 7, 3) := by decide +kernel
theorem dX6_check_34 : decode cX6_check 34 = .ok (.iconst 1, 1) := by decide +kernel
theorem dX6_check_35 : decode cX6_check 35 = .ok (.goto 4, 3) := by decide +kernel
theorem dX6_check_38 : decode cX6_check 38 = .ok (.iconst 0, 1) := by decide +kernel
theorem dX6_check_39 : decode cX6_check 39 = .ok (.ireturn, 1) := by decide +kernel
theorem dX6_count_0 : decode cX6_count 0 = .ok (.iload_n 1, 1) := by decide +kernel
theorem dX6_count_1 : decode cX6_count 1 = .ok (.tableswitch 96 0 7 #[47, 52, 57, 65, 73, 81, 86, 91], 47) := by decide +kernel
theorem dX6_count_48 : decode cX6_count 48 = .ok (.aload_n 0, 1) := by decide +kernel
theorem dX6_count_49 : decode cX6_count 49 = .ok (.getfield 229, 3) := by decide +kernel
theorem dX6_count_52 : decode cX6_count 52 = .ok (.ireturn, 1) := by decide +kernel
theorem dX6_count_53 : decode cX6_count 53 = .ok (.aload_n 0, 1) := by decide +kernel
theorem dX6_count_54 : decode cX6_count 54 = .ok (.invokevirtual 232, 3) := by decide +kernel
theorem dX6_count_57 : decode cX6_count 57 = .ok (.ireturn, 1) := by decide +kernel
theorem dX6_count_58 : decode cX6_count 58 = .ok (.aload_n 0, 1) := by decide +kernel
theorem dX6_count_59 : decode cX6_count 59 = .ok (.getfield 30, 3) := by decide +kernel
theorem dX6_count_62 : decode cX6_count 62 = .ok (.getfield 99, 3) := by decide +kernel
theorem dX6_count_65 : decode cX6_count 65 = .ok (.ireturn, 1) := by decide +kernel
theorem dX6_count_66 : decode cX6_count 66 = .ok (.aload_n 0, 1) := by decide +kernel
theorem dX6_count_67 : decode cX6_count 67 = .ok (.getfield 30, 3) := by decide +kernel
theorem dX6_count_70 : decode cX6_count 70 = .ok (.getfield 235, 3) := by decide +kernel
theorem dX6_count_73 : decode cX6_count 73 = .ok (.ireturn, 1) := by decide +kernel
theorem dX6_count_74 : decode cX6_count 74 = .ok (.aload_n 0, 1) := by decide +kernel
theorem dX6_count_75 : decode cX6_count 75 = .ok (.getfield 30, 3) := by decide +kernel
theorem dX6_count_78 : decode cX6_count 78 = .ok (.getfield 151, 3) := by decide +kernel
theorem dX6_count_81 : decode cX6_count 81 = .ok (.ireturn, 1) := by decide +kernel
theorem dX6_count_82 : decode cX6_count 82 = .ok (.aload_n 0, 1) := by decide +kernel
theorem dX6_count_83 : decode cX6_count 83 = .ok (.getfield 238, 3) := by decide +kernel
theorem dX6_count_86 : decode cX6_count 86 = .ok (.ireturn, 1) := by decide +kernel
theorem dX6_count_87 : decode cX6_count 87 = .ok (.aload_n 0, 1) := by decide +kernel
theorem dX6_count_88 : decode cX6_count 88 = .ok (.invokevirtual 241, 3) := by decide +kernel
theorem dX6_count_91 : decode cX6_count 91 = .ok (.ireturn, 1) := by decide +kernel
theorem dX6_count_92 : decode cX6_count 92 = .ok (.aload_n 0, 1) := by decide +kernel
theorem dX6_count_93 : decode cX6_count 93 = .ok (.getfield 43, 3) := by decide +kernel
theorem dX6_count_96 : decode cX6_count 96 = .ok (.ireturn, 1) := by decide +kernel
theorem dX6_count_97 : decode cX6_count 97 = .ok (.ldc 55, 2) := by decide +kernel
theorem dX6_count_99 : decode cX6_count 99 = .ok (.ireturn, 1) := by decide +kernel
theorem dX6_endOf_0 : decode cX6_endOf 0 = .ok (.iload_n 1, 1) := by decide +kernel
theorem dX6_endOf_1 : decode cX6_endOf 1 = .ok (.ifCond .lt 21, 3) := by decide +kernel
theorem dX6_endOf_4 : decode cX6_endOf 4 = .ok (.iload_n 1, 1) := by decide +kernel
theorem dX6_endOf_5 : decode cX6_endOf 5 = .ok (.aload_n 0, 1) := by decide +kernel
theorem dX6_endOf_6 : decode cX6_endOf 6 = .ok (.getfield 11, 3) := by decide +kernel
theorem dX6_endOf_9 : decode cX6_endOf 9 = .ok (.arraylength, 1) := by decide +kernel
theorem dX6_endOf_10 : decode cX6_endOf 10 = .ok (.if_icmp .ge 12, 3) := by decide +kernel
theorem dX6_endOf_13 : decode cX6_endOf 13 = .ok (.aload_n 0, 1) := by decide +kernel
theorem dX6_endOf_14 : decode cX6_endOf 14 = .ok (.getfield 11, 3) := by decide +kernel
theorem dX6_endOf_17 : decode cX6_endOf 17 = .ok (.iload_n 1, 1) := by decide +kernel
theorem dX6_endOf_18 : decode cX6_endOf 18 = .ok (.aaload, 1) := by decide +kernel
theorem dX6_endOf_19 : decode cX6_endOf 19 = .ok (.goto 4, 3) := by decide +kernel
theorem dX6_endOf_22 : decode cX6_endOf 22 = .ok (.aconst_null, 1) := by decide +kernel
theorem dX6_endOf_23 : decode cX6_endOf 23 = .ok (.areturn, 1) := by decide +kernel
theorem dX6_serverOf_0 : decode cX6_serverOf 0 = .ok (.iload_n 1, 1) := by decide +kernel
theorem dX6_serverOf_1 : decode cX6_serverOf 1 = .ok (.ifCond .lt 21, 3) := by decide +kernel
theorem dX6_serverOf_4 : decode cX6_serverOf 4 = .ok (.iload_n 1, 1) := by decide +kernel
theorem dX6_serverOf_5 : decode cX6_serverOf 5 = .ok (.aload_n 0, 1) := by decide +kernel
theorem dX6_serverOf_6 : decode cX6_serverOf 6 = .ok (.getfield 17, 3) := by decide +kernel
theorem dX6_serverOf_9 : decode cX6_serverOf 9 = .ok (.arraylength, 1) := by decide +kernel
theorem dX6_serverOf_10 : decode cX6_serverOf 10 = .ok (.if_icmp .ge 12, 3) := by decide +kernel
theorem dX6_serverOf_13 : decode cX6_serverOf 13 = .ok (.aload_n 0, 1) := by decide +kernel
theorem dX6_serverOf_14 : decode cX6_serverOf 14 = .ok (.getfield 17, 3) := by decide +kernel
theorem dX6_serverOf_17 : decode cX6_serverOf 17 = .ok (.iload_n 1, 1) := by decide +kernel
theorem dX6_serverOf_18 : decode cX6_serverOf 18 = .ok (.aaload, 1) := by decide +kernel
theorem dX6_serverOf_19 : decode cX6_serverOf 19 = .ok (.goto 4, 3) := by decide +kernel
theorem dX6_serverOf_22 : decode cX6_serverOf 22 = .ok (.aconst_null, 1) := by decide +kernel
theorem dX6_serverOf_23 : decode cX6_serverOf 23 = .ok (.areturn, 1) := by decide +kernel
theorem dX6_askOf_0 : decode cX6_askOf 0 = .ok (.iload_n 1, 1) := by decide +kernel
theorem dX6_askOf_1 : decode cX6_askOf 1 = .ok (.ifCond .lt 21, 3) := by decide +kernel
theorem dX6_askOf_4 : decode cX6_askOf 4 = .ok (.iload_n 1, 1) := by decide +kernel
theorem dX6_askOf_5 : decode cX6_askOf 5 = .ok (.aload_n 0, 1) := by decide +kernel
theorem dX6_askOf_6 : decode cX6_askOf 6 = .ok (.getfield 23, 3) := by decide +kernel
theorem dX6_askOf_9 : decode cX6_askOf 9 = .ok (.arraylength, 1) := by decide +kernel
theorem dX6_askOf_10 : decode cX6_askOf 10 = .ok (.if_icmp .ge 12, 3) := by decide +kernel
theorem dX6_askOf_13 : decode cX6_askOf 13 = .ok (.aload_n 0, 1) := by decide +kernel
theorem dX6_askOf_14 : decode cX6_askOf 14 = .ok (.getfield 23, 3) := by decide +kernel
theorem dX6_askOf_17 : decode cX6_askOf 17 = .ok (.iload_n 1, 1) := by decide +kernel
theorem dX6_askOf_18 : decode cX6_askOf 18 = .ok (.aaload, 1) := by decide +kernel
theorem dX6_askOf_19 : decode cX6_askOf 19 = .ok (.goto 4, 3) := by decide +kernel
theorem dX6_askOf_22 : decode cX6_askOf 22 = .ok (.aconst_null, 1) := by decide +kernel
theorem dX6_askOf_23 : decode cX6_askOf 23 = .ok (.areturn, 1) := by decide +kernel
theorem dX6_memoryOf_0 : decode cX6_memoryOf 0 = .ok (.aload_n 0, 1) := by decide +kernel
theorem dX6_memoryOf_1 : decode cX6_memoryOf 1 = .ok (.iload_n 1, 1) := by decide +kernel
theorem dX6_memoryOf_2 : decode cX6_memoryOf 2 = .ok (.invokevirtual 51, 3) := by decide +kernel
theorem dX6_memoryOf_5 : decode cX6_memoryOf 5 = .ok (.astore_n 3, 1) := by decide +kernel
theorem dX6_memoryOf_6 : decode cX6_memoryOf 6 = .ok (.aload_n 3, 1) := by decide +kernel
theorem dX6_memoryOf_7 : decode cX6_memoryOf 7 = .ok (.ifnonnull 7, 3) := by decide +kernel
theorem dX6_memoryOf_10 : decode cX6_memoryOf 10 = .ok (.aconst_null, 1) := by decide +kernel
theorem dX6_memoryOf_11 : decode cX6_memoryOf 11 = .ok (.goto 8, 3) := by decide +kernel
theorem dX6_memoryOf_14 : decode cX6_memoryOf 14 = .ok (.aload_n 3, 1) := by decide +kernel
theorem dX6_memoryOf_15 : decode cX6_memoryOf 15 = .ok (.iload_n 2, 1) := by decide +kernel
theorem dX6_memoryOf_16 : decode cX6_memoryOf 16 = .ok (.invokevirtual 244, 3) := by decide +kernel
theorem dX6_memoryOf_19 : decode cX6_memoryOf 19 = .ok (.areturn, 1) := by decide +kernel
theorem dX6_idOf_0 : decode cX6_idOf 0 = .ok (.aload_n 0, 1) := by decide +kernel
theorem dX6_idOf_1 : decode cX6_idOf 1 = .ok (.ifnonnull 7, 3) := by decide +kernel
theorem dX6_idOf_4 : decode cX6_idOf 4 = .ok (.iconst (-1), 1) := by decide +kernel
theorem dX6_idOf_5 : decode cX6_idOf 5 = .ok (.goto 7, 3) := by decide +kernel
theorem dX6_idOf_8 : decode cX6_idOf 8 = .ok (.aload_n 0, 1) := by decide +kernel
theorem dX6_idOf_9 : decode cX6_idOf 9 = .ok (.getfield 82, 3) := by decide +kernel
theorem dX6_idOf_12 : decode cX6_idOf 12 = .ok (.ireturn, 1) := by decide +kernel
theorem dX6_isAccount_0 : decode cX6_isAccount 0 = .ok (.iload_n 0, 1) := by decide +kernel
theorem dX6_isAccount_1 : decode cX6_isAccount 1 = .ok (.ifCond .lt 13, 3) := by decide +kernel
theorem dX6_isAccount_4 : decode cX6_isAccount 4 = .ok (.iload_n 0, 1) := by decide +kernel
theorem dX6_isAccount_5 : decode cX6_isAccount 5 = .ok (.bipush 6, 2) := by decide +kernel
theorem dX6_isAccount_7 : decode cX6_isAccount 7 = .ok (.if_icmp .ge 7, 3) := by decide +kernel
theorem dX6_isAccount_10 : decode cX6_isAccount 10 = .ok (.iconst 1, 1) := by decide +kernel
theorem dX6_isAccount_11 : decode cX6_isAccount 11 = .ok (.goto 4, 3) := by decide +kernel
theorem dX6_isAccount_14 : decode cX6_isAccount 14 = .ok (.iconst 0, 1) := by decide +kernel
theorem dX6_isAccount_15 : decode cX6_isAccount 15 = .ok (.ireturn, 1) := by decide +kernel
theorem dX6_isAmount_0 : decode cX6_isAmount 0 = .ok (.iload_n 1, 1) := by decide +kernel
theorem dX6_isAmount_1 : decode cX6_isAmount 1 = .ok (.ldc 247, 2) := by decide +kernel
theorem dX6_isAmount_3 : decode cX6_isAmount 3 = .ok (.if_icmp .le 5, 3) := by decide +kernel
theorem dX6_isAmount_6 : decode cX6_isAmount 6 = .ok (.iconst 0, 1) := by decide +kernel
theorem dX6_isAmount_7 : decode cX6_isAmount 7 = .ok (.ireturn, 1) := by decide +kernel
theorem dX6_isAmount_8 : decode cX6_isAmount 8 = .ok (.iload_n 0, 1) := by decide +kernel
theorem dX6_isAmount_9 : decode cX6_isAmount 9 = .ok (.tableswitch 68 0 4 #[35, 35, 47, 47, 57], 35) := by decide +kernel
theorem dX6_isAmount_44 : decode cX6_isAmount 44 = .ok (.iload_n 1, 1) := by decide +kernel
theorem dX6_isAmount_45 : decode cX6_isAmount 45 = .ok (.ldc 248, 2) := by decide +kernel
theorem dX6_isAmount_47 : decode cX6_isAmount 47 = .ok (.if_icmp .lt 7, 3) := by decide +kernel
theorem dX6_isAmount_50 : decode cX6_isAmount 50 = .ok (.iconst 1, 1) := by decide +kernel
theorem dX6_isAmount_51 : decode cX6_isAmount 51 = .ok (.goto 4, 3) := by decide +kernel
theorem dX6_isAmount_54 : decode cX6_isAmount 54 = .ok (.iconst 0, 1) := by decide +kernel
theorem dX6_isAmount_55 : decode cX6_isAmount 55 = .ok (.ireturn, 1) := by decide +kernel
theorem dX6_isAmount_56 : decode cX6_isAmount 56 = .ok (.iload_n 1, 1) := by decide +kernel
theorem dX6_isAmount_57 : decode cX6_isAmount 57 = .ok (.ifCond .lt 7, 3) := by decide +kernel
theorem dX6_isAmount_60 : decode cX6_isAmount 60 = .ok (.iconst 1, 1) := by decide +kernel
theorem dX6_isAmount_61 : decode cX6_isAmount 61 = .ok (.goto 4, 3) := by decide +kernel
theorem dX6_isAmount_64 : decode cX6_isAmount 64 = .ok (.iconst 0, 1) := by decide +kernel
theorem dX6_isAmount_65 : decode cX6_isAmount 65 = .ok (.ireturn, 1) := by decide +kernel
theorem dX6_isAmount_66 : decode cX6_isAmount 66 = .ok (.iload_n 1, 1) := by decide +kernel
theorem dX6_isAmount_67 : decode cX6_isAmount 67 = .ok (.iconst 1, 1) := by decide +kernel
theorem dX6_isAmount_68 : decode cX6_isAmount 68 = .ok (.if_icmp .lt 7, 3) := by decide +kernel
theorem dX6_isAmount_71 : decode cX6_isAmount 71 = .ok (.iconst 1, 1) := by decide +kernel
theorem dX6_isAmount_72 : decode cX6_isAmount 72 = .ok (.goto 4, 3) := by decide +kernel
theorem dX6_isAmount_75 : decode cX6_isAmount 75 = .ok (.iconst 0, 1) := by decide +kernel
theorem dX6_isAmount_76 : decode cX6_isAmount 76 = .ok (.ireturn, 1) := by decide +kernel
theorem dX6_isAmount_77 : decode cX6_isAmount 77 = .ok (.iconst 0, 1) := by decide +kernel
theorem dX6_isAmount_78 : decode cX6_isAmount 78 = .ok (.ireturn, 1) := by decide +kernel
theorem dX6_newAsk_0 : decode cX6_newAsk 0 = .ok (.aload_n 0, 1) := by decide +kernel
theorem dX6_newAsk_1 : decode cX6_newAsk 1 = .ok (.getfield 229, 3) := by decide +kernel
theorem dX6_newAsk_4 : decode cX6_newAsk 4 = .ok (.ifCond .lt 15, 3) := by decide +kernel
theorem dX6_newAsk_7 : decode cX6_newAsk 7 = .ok (.aload_n 0, 1) := by decide +kernel
theorem dX6_newAsk_8 : decode cX6_newAsk 8 = .ok (.getfield 229, 3) := by decide +kernel
theorem dX6_newAsk_11 : decode cX6_newAsk 11 = .ok (.aload_n 0, 1) := by decide +kernel
theorem dX6_newAsk_12 : decode cX6_newAsk 12 = .ok (.getfield 23, 3) := by decide +kernel
theorem dX6_newAsk_15 : decode cX6_newAsk 15 = .ok (.arraylength, 1) := by decide +kernel
theorem dX6_newAsk_16 : decode cX6_newAsk 16 = .ok (.if_icmp .lt 5, 3) := by decide +kernel
theorem dX6_newAsk_19 : decode cX6_newAsk 19 = .ok (.aconst_null, 1) := by decide +kernel
theorem dX6_newAsk_20 : decode cX6_newAsk 20 = .ok (.areturn, 1) := by decide +kernel
theorem dX6_newAsk_21 : decode cX6_newAsk 21 = .ok (.aload_n 1, 1) := by decide +kernel
theorem dX6_newAsk_22 : decode cX6_newAsk 22 = .ok (.getfield 138, 3) := by decide +kernel
theorem dX6_newAsk_25 : decode cX6_newAsk 25 = .ok (.aload_n 1, 1) := by decide +kernel
theorem dX6_newAsk_26 : decode cX6_newAsk 26 = .ok (.invokevirtual 133, 3) := by decide +kernel
theorem dX6_newAsk_29 : decode cX6_newAsk 29 = .ok (.isub, 1) := by decide +kernel
theorem dX6_newAsk_30 : decode cX6_newAsk 30 = .ok (.aload_n 0, 1) := by decide +kernel
theorem dX6_newAsk_31 : decode cX6_newAsk 31 = .ok (.getfield 43, 3) := by decide +kernel
theorem dX6_newAsk_34 : decode cX6_newAsk 34 = .ok (.if_icmp .lt 5, 3) := by decide +kernel
theorem dX6_newAsk_37 : decode cX6_newAsk 37 = .ok (.aconst_null, 1) := by decide +kernel
theorem dX6_newAsk_38 : decode cX6_newAsk 38 = .ok (.areturn, 1) := by decide +kernel
theorem dX6_newAsk_39 : decode cX6_newAsk 39 = .ok (.new 21, 3) := by decide +kernel
theorem dX6_newAsk_42 : decode cX6_newAsk 42 = .ok (.dup, 1) := by decide +kernel
theorem dX6_newAsk_43 : decode cX6_newAsk 43 = .ok (.aload_n 0, 1) := by decide +kernel
theorem dX6_newAsk_44 : decode cX6_newAsk 44 = .ok (.getfield 229, 3) := by decide +kernel
theorem dX6_newAsk_47 : decode cX6_newAsk 47 = .ok (.aload_n 1, 1) := by decide +kernel
theorem dX6_newAsk_48 : decode cX6_newAsk 48 = .ok (.getfield 183, 3) := by decide +kernel
theorem dX6_newAsk_51 : decode cX6_newAsk 51 = .ok (.aload_n 1, 1) := by decide +kernel
theorem dX6_newAsk_52 : decode cX6_newAsk 52 = .ok (.getfield 137, 3) := by decide +kernel
theorem dX6_newAsk_55 : decode cX6_newAsk 55 = .ok (.aload_n 1, 1) := by decide +kernel
theorem dX6_newAsk_56 : decode cX6_newAsk 56 = .ok (.getfield 138, 3) := by decide +kernel
theorem dX6_newAsk_59 : decode cX6_newAsk 59 = .ok (.invokespecial 249, 3) := by decide +kernel
theorem dX6_newAsk_62 : decode cX6_newAsk 62 = .ok (.astore 8, 2) := by decide +kernel
theorem dX6_newAsk_64 : decode cX6_newAsk 64 = .ok (.aload 8, 2) := by decide +kernel
theorem dX6_newAsk_66 : decode cX6_newAsk 66 = .ok (.iload_n 2, 1) := by decide +kernel
theorem dX6_newAsk_67 : decode cX6_newAsk 67 = .ok (.putfield 108, 3) := by decide +kernel
theorem dX6_newAsk_70 : decode cX6_newAsk 70 = .ok (.aload 8, 2) := by decide +kernel
theorem dX6_newAsk_72 : decode cX6_newAsk 72 = .ok (.iload_n 3, 1) := by decide +kernel
theorem dX6_newAsk_73 : decode cX6_newAsk 73 = .ok (.putfield 111, 3) := by decide +kernel
theorem dX6_newAsk_76 : decode cX6_newAsk 76 = .ok (.aload 8, 2) := by decide +kernel
theorem dX6_newAsk_78 : decode cX6_newAsk 78 = .ok (.iload 4, 2) := by decide +kernel
theorem dX6_newAsk_80 : decode cX6_newAsk 80 = .ok (.putfield 252, 3) := by decide +kernel
theorem dX6_newAsk_83 : decode cX6_newAsk 83 = .ok (.aload 8, 2) := by decide +kernel
theorem dX6_newAsk_85 : decode cX6_newAsk 85 = .ok (.iload 5, 2) := by decide +kernel
theorem dX6_newAsk_87 : decode cX6_newAsk 87 = .ok (.putfield 255, 3) := by decide +kernel
theorem dX6_newAsk_90 : decode cX6_newAsk 90 = .ok (.aload 8, 2) := by decide +kernel
theorem dX6_newAsk_92 : decode cX6_newAsk 92 = .ok (.iload 6, 2) := by decide +kernel
theorem dX6_newAsk_94 : decode cX6_newAsk 94 = .ok (.putfield 258, 3) := by decide +kernel
theorem dX6_newAsk_97 : decode cX6_newAsk 97 = .ok (.aload 8, 2) := by decide +kernel
theorem dX6_newAsk_99 : decode cX6_newAsk 99 = .ok (.iload 7, 2) := by decide +kernel
theorem dX6_newAsk_101 : decode cX6_newAsk 101 = .ok (.putfield 261, 3) := by decide +kernel
theorem dX6_newAsk_104 : decode cX6_newAsk 104 = .ok (.aload_n 0, 1) := by decide +kernel
theorem dX6_newAsk_105 : decode cX6_newAsk 105 = .ok (.getfield 23, 3) := by decide +kernel
theorem dX6_newAsk_108 : decode cX6_newAsk 108 = .ok (.aload_n 0, 1) := by decide +kernel
theorem dX6_newAsk_109 : decode cX6_newAsk 109 = .ok (.getfield 229, 3) := by decide +kernel
theorem dX6_newAsk_112 : decode cX6_newAsk 112 = .ok (.aload 8, 2) := by decide +kernel
theorem dX6_newAsk_114 : decode cX6_newAsk 114 = .ok (.aastore, 1) := by decide +kernel
theorem dX6_newAsk_115 : decode cX6_newAsk 115 = .ok (.aload_n 0, 1) := by decide +kernel
theorem dX6_newAsk_116 : decode cX6_newAsk 116 = .ok (.dup, 1) := by decide +kernel
theorem dX6_newAsk_117 : decode cX6_newAsk 117 = .ok (.getfield 229, 3) := by decide +kernel
theorem dX6_newAsk_120 : decode cX6_newAsk 120 = .ok (.iconst 1, 1) := by decide +kernel
theorem dX6_newAsk_121 : decode cX6_newAsk 121 = .ok (.iadd, 1) := by decide +kernel
theorem dX6_newAsk_122 : decode cX6_newAsk 122 = .ok (.putfield 229, 3) := by decide +kernel
theorem dX6_newAsk_125 : decode cX6_newAsk 125 = .ok (.aload_n 1, 1) := by decide +kernel
theorem dX6_newAsk_126 : decode cX6_newAsk 126 = .ok (.aload 8, 2) := by decide +kernel
theorem dX6_newAsk_128 : decode cX6_newAsk 128 = .ok (.invokevirtual 264, 3) := by decide +kernel
theorem dX6_newAsk_131 : decode cX6_newAsk 131 = .ok (.aload 8, 2) := by decide +kernel
theorem dX6_newAsk_133 : decode cX6_newAsk 133 = .ok (.areturn, 1) := by decide +kernel
theorem dX6_sendAsk_0 : decode cX6_sendAsk 0 = .ok (.aload_n 0, 1) := by decide +kernel
theorem dX6_sendAsk_1 : decode cX6_sendAsk 1 = .ok (.aload_n 1, 1) := by decide +kernel
theorem dX6_sendAsk_2 : decode cX6_sendAsk 2 = .ok (.getfield 89, 3) := by decide +kernel
theorem dX6_sendAsk_5 : decode cX6_sendAsk 5 = .ok (.invokevirtual 64, 3) := by decide +kernel
theorem dX6_sendAsk_8 : decode cX6_sendAsk 8 = .ok (.astore_n 3, 1) := by decide +kernel
theorem dX6_sendAsk_9 : decode cX6_sendAsk 9 = .ok (.iload_n 2, 1) := by decide +kernel
theorem dX6_sendAsk_10 : decode cX6_sendAsk 10 = .ok (.ifCond .eq 7, 3) := by decide +kernel
theorem dX6_sendAsk_13 : decode cX6_sendAsk 13 = .ok (.aload_n 3, 1) := by decide +kernel
theorem dX6_sendAsk_14 : decode cX6_sendAsk 14 = .ok (.ifnonnull 5, 3) := by decide +kernel
theorem dX6_sendAsk_17 : decode cX6_sendAsk 17 = .ok (.iconst 0, 1) := by decide +kernel
theorem dX6_sendAsk_18 : decode cX6_sendAsk 18 = .ok (.ireturn, 1) := by decide +kernel
theorem dX6_sendAsk_19 : decode cX6_sendAsk 19 = .ok (.aload_n 0, 1) := by decide +kernel
theorem dX6_sendAsk_20 : decode cX6_sendAsk 20 = .ok (.getfield 30, 3) := by decide +kernel
theorem dX6_sendAsk_23 : decode cX6_sendAsk 23 = .ok (.invokevirtual 154, 3) := by decide +kernel
theorem dX6_sendAsk_26 : decode cX6_sendAsk 26 = .ok (.astore 4, 2) := by decide +kernel
theorem dX6_sendAsk_28 : decode cX6_sendAsk 28 = .ok (.aload 4, 2) := by decide +kernel
theorem dX6_sendAsk_30 : decode cX6_sendAsk 30 = .ok (.ifnull 13, 3) := by decide +kernel
theorem dX6_sendAsk_33 : decode cX6_sendAsk 33 = .ok (.aload 4, 2) := by decide +kernel
theorem dX6_sendAsk_35 : decode cX6_sendAsk 35 = .ok (.aload_n 1, 1) := by decide +kernel
theorem dX6_sendAsk_36 : decode cX6_sendAsk 36 = .ok (.aload_n 3, 1) := by decide +kernel
theorem dX6_sendAsk_37 : decode cX6_sendAsk 37 = .ok (.invokevirtual 133, 3) := by decide +kernel
theorem dX6_sendAsk_40 : decode cX6_sendAsk 40 = .ok (.invokevirtual 268, 3) := by decide +kernel
theorem dX6_sendAsk_43 : decode cX6_sendAsk 43 = .ok (.iconst 1, 1) := by decide +kernel
theorem dX6_sendAsk_44 : decode cX6_sendAsk 44 = .ok (.ireturn, 1) := by decide +kernel
theorem dX6_sendAnswer_0 : decode cX6_sendAnswer 0 = .ok (.iload 4, 2) := by decide +kernel
theorem dX6_sendAnswer_2 : decode cX6_sendAnswer 2 = .ok (.ifCond .ne 5, 3) := by decide +kernel
theorem dX6_sendAnswer_5 : decode cX6_sendAnswer 5 = .ok (.iconst 0, 1) := by decide +kernel
theorem dX6_sendAnswer_6 : decode cX6_sendAnswer 6 = .ok (.ireturn, 1) := by decide +kernel
theorem dX6_sendAnswer_7 : decode cX6_sendAnswer 7 = .ok (.aload_n 0, 1) := by decide +kernel
theorem dX6_sendAnswer_8 : decode cX6_sendAnswer 8 = .ok (.getfield 30, 3) := by decide +kernel
theorem dX6_sendAnswer_11 : decode cX6_sendAnswer 11 = .ok (.invokevirtual 154, 3) := by decide +kernel
theorem dX6_sendAnswer_14 : decode cX6_sendAnswer 14 = .ok (.astore 5, 2) := by decide +kernel
theorem dX6_sendAnswer_16 : decode cX6_sendAnswer 16 = .ok (.aload 5, 2) := by decide +kernel
theorem dX6_sendAnswer_18 : decode cX6_sendAnswer 18 = .ok (.ifnull 10, 3) := by decide +kernel
theorem dX6_sendAnswer_21 : decode cX6_sendAnswer 21 = .ok (.aload 5, 2) := by decide +kernel
theorem dX6_sendAnswer_23 : decode cX6_sendAnswer 23 = .ok (.aload_n 1, 1) := by decide +kernel
theorem dX6_sendAnswer_24 : decode cX6_sendAnswer 24 = .ok (.lload_n 2, 1) := by decide +kernel
theorem dX6_sendAnswer_25 : decode cX6_sendAnswer 25 = .ok (.invokevirtual 271, 3) := by decide +kernel
theorem dX6_sendAnswer_28 : decode cX6_sendAnswer 28 = .ok (.iconst 1, 1) := by decide +kernel
theorem dX6_sendAnswer_29 : decode cX6_sendAnswer 29 = .ok (.ireturn, 1) := by decide +kernel
theorem dX6_sendOver_0 : decode cX6_sendOver 0 = .ok (.iload_n 2, 1) := by decide +kernel
theorem dX6_sendOver_1 : decode cX6_sendOver 1 = .ok (.ifCond .ne 5, 3) := by decide +kernel
theorem dX6_sendOver_4 : decode cX6_sendOver 4 = .ok (.iconst 0, 1) := by decide +kernel
theorem dX6_sendOver_5 : decode cX6_sendOver 5 = .ok (.ireturn, 1) := by decide +kernel
theorem dX6_sendOver_6 : decode cX6_sendOver 6 = .ok (.aload_n 0, 1) := by decide +kernel
theorem dX6_sendOver_7 : decode cX6_sendOver 7 = .ok (.getfield 30, 3) := by decide +kernel
theorem dX6_sendOver_10 : decode cX6_sendOver 10 = .ok (.invokevirtual 154, 3) := by decide +kernel
theorem dX6_sendOver_13 : decode cX6_sendOver 13 = .ok (.astore_n 3, 1) := by decide +kernel
theorem dX6_sendOver_14 : decode cX6_sendOver 14 = .ok (.aload_n 3, 1) := by decide +kernel
theorem dX6_sendOver_15 : decode cX6_sendOver 15 = .ok (.ifnull 8, 3) := by decide +kernel
theorem dX6_sendOver_18 : decode cX6_sendOver 18 = .ok (.aload_n 3, 1) := by decide +kernel
theorem dX6_sendOver_19 : decode cX6_sendOver 19 = .ok (.aload_n 1, 1) := by decide +kernel
theorem dX6_sendOver_20 : decode cX6_sendOver 20 = .ok (.invokevirtual 275, 3) := by decide +kernel
theorem dX6_sendOver_23 : decode cX6_sendOver 23 = .ok (.iconst 1, 1) := by decide +kernel
theorem dX6_sendOver_24 : decode cX6_sendOver 24 = .ok (.ireturn, 1) := by decide +kernel
theorem dX6_come_0 : decode cX6_come 0 = .ok (.aload_n 0, 1) := by decide +kernel
theorem dX6_come_1 : decode cX6_come 1 = .ok (.getfield 30, 3) := by decide +kernel
theorem dX6_come_4 : decode cX6_come 4 = .ok (.iload_n 1, 1) := by decide +kernel
theorem dX6_come_5 : decode cX6_come 5 = .ok (.invokevirtual 148, 3) := by decide +kernel
theorem dX6_come_8 : decode cX6_come 8 = .ok (.astore_n 3, 1) := by decide +kernel
theorem dX6_come_9 : decode cX6_come 9 = .ok (.aload_n 3, 1) := by decide +kernel
theorem dX6_come_10 : decode cX6_come 10 = .ok (.ifnull 10, 3) := by decide +kernel
theorem dX6_come_13 : decode cX6_come 13 = .ok (.aload_n 3, 1) := by decide +kernel
theorem dX6_come_14 : decode cX6_come 14 = .ok (.getfield 167, 3) := by decide +kernel
theorem dX6_come_17 : decode cX6_come 17 = .ok (.ifnonnull 5, 3) := by decide +kernel
theorem dX6_come_20 : decode cX6_come 20 = .ok (.iconst 0, 1) := by decide +kernel
theorem dX6_come_21 : decode cX6_come 21 = .ok (.ireturn, 1) := by decide +kernel
theorem dX6_come_22 : decode cX6_come 22 = .ok (.aload_n 0, 1) := by decide +kernel
theorem dX6_come_23 : decode cX6_come 23 = .ok (.getfield 30, 3) := by decide +kernel
theorem dX6_come_26 : decode cX6_come 26 = .ok (.dup, 1) := by decide +kernel
theorem dX6_come_27 : decode cX6_come 27 = .ok (.getfield 235, 3) := by decide +kernel
theorem dX6_come_30 : decode cX6_come 30 = .ok (.iconst 1, 1) := by decide +kernel
theorem dX6_come_31 : decode cX6_come 31 = .ok (.iadd, 1) := by decide +kernel
theorem dX6_come_32 : decode cX6_come 32 = .ok (.putfield 235, 3) := by decide +kernel
theorem dX6_come_35 : decode cX6_come 35 = .ok (.aload_n 3, 1) := by decide +kernel
theorem dX6_come_36 : decode cX6_come 36 = .ok (.getfield 167, 3) := by decide +kernel
theorem dX6_come_39 : decode cX6_come 39 = .ok (.astore 4, 2) := by decide +kernel
theorem dX6_come_41 : decode cX6_come 41 = .ok (.aload_n 0, 1) := by decide +kernel
theorem dX6_come_42 : decode cX6_come 42 = .ok (.aload_n 3, 1) := by decide +kernel
theorem dX6_come_43 : decode cX6_come 43 = .ok (.getfield 170, 3) := by decide +kernel
theorem dX6_come_46 : decode cX6_come 46 = .ok (.ifCond .eq 11, 3) := by decide +kernel
theorem dX6_come_49 : decode cX6_come 49 = .ok (.aload 4, 2) := by decide +kernel
theorem dX6_come_51 : decode cX6_come 51 = .ok (.getfield 89, 3) := by decide +kernel
theorem dX6_come_54 : decode cX6_come 54 = .ok (.goto 11, 3) := by decide +kernel
theorem dX6_come_57 : decode cX6_come 57 = .ok (.bipush 6, 2) := by decide +kernel
theorem dX6_come_59 : decode cX6_come 59 = .ok (.aload 4, 2) := by decide +kernel
theorem dX6_come_61 : decode cX6_come 61 = .ok (.getfield 108, 3) := by decide +kernel
theorem dX6_come_64 : decode cX6_come 64 = .ok (.iadd, 1) := by decide +kernel
theorem dX6_come_65 : decode cX6_come 65 = .ok (.invokevirtual 64, 3) := by decide +kernel
theorem dX6_come_68 : decode cX6_come 68 = .ok (.astore 5, 2) := by decide +kernel
theorem dX6_come_70 : decode cX6_come 70 = .ok (.aload 5, 2) := by decide +kernel
theorem dX6_come_72 : decode cX6_come 72 = .ok (.ifnull 11, 3) := by decide +kernel
theorem dX6_come_75 : decode cX6_come 75 = .ok (.aload 5, 2) := by decide +kernel
theorem dX6_come_77 : decode cX6_come 77 = .ok (.getfield 68, 3) := by decide +kernel
theorem dX6_come_80 : decode cX6_come 80 = .ok (.ifCond .ne 5, 3) := by decide +kernel
theorem dX6_come_83 : decode cX6_come 83 = .ok (.iconst 0, 1) := by decide +kernel
theorem dX6_come_84 : decode cX6_come 84 = .ok (.ireturn, 1) := by decide +kernel
theorem dX6_come_85 : decode cX6_come 85 = .ok (.iconst 0, 1) := by decide +kernel
theorem dX6_come_86 : decode cX6_come 86 = .ok (.istore 6, 2) := by decide +kernel
theorem dX6_come_88 : decode cX6_come 88 = .ok (.iload_n 2, 1) := by decide +kernel
theorem dX6_come_89 : decode cX6_come 89 = .ok (.ifCond .eq 60, 3) := by decide +kernel
theorem dX6_come_92 : decode cX6_come 92 = .ok (.aload_n 3, 1) := by decide +kernel
theorem dX6_come_93 : decode cX6_come 93 = .ok (.getfield 164, 3) := by decide +kernel
theorem dX6_come_96 : decode cX6_come 96 = .ok (.ifCond .ne 53, 3) := by decide +kernel
theorem dX6_come_99 : decode cX6_come 99 = .ok (.aload_n 3, 1) := by decide +kernel
theorem dX6_come_100 : decode cX6_come 100 = .ok (.getfield 170, 3) := by decide +kernel
theorem dX6_come_103 : decode cX6_come 103 = .ok (.ifCond .ne 16, 3) := by decide +kernel
theorem dX6_come_106 : decode cX6_come 106 = .ok (.aload_n 0, 1) := by decide +kernel
theorem dX6_come_107 : decode cX6_come 107 = .ok (.aload_n 3, 1) := by decide +kernel
theorem dX6_come_108 : decode cX6_come 108 = .ok (.aload 4, 2) := by decide +kernel
theorem dX6_come_110 : decode cX6_come 110 = .ok (.iload_n 2, 1) := by decide +kernel
theorem dX6_come_111 : decode cX6_come 111 = .ok (.invokevirtual 278, 3) := by decide +kernel
theorem dX6_come_114 : decode cX6_come 114 = .ok (.istore 6, 2) := by decide +kernel
theorem dX6_come_116 : decode cX6_come 116 = .ok (.goto 33, 3) := by decide +kernel
theorem dX6_come_119 : decode cX6_come 119 = .ok (.aload 5, 2) := by decide +kernel
theorem dX6_come_121 : decode cX6_come 121 = .ok (.getfield 183, 3) := by decide +kernel
theorem dX6_come_124 : decode cX6_come 124 = .ok (.bipush 6, 2) := by decide +kernel
theorem dX6_come_126 : decode cX6_come 126 = .ok (.if_icmp .ge 13, 3) := by decide +kernel
theorem dX6_come_129 : decode cX6_come 129 = .ok (.aload_n 0, 1) := by decide +kernel
theorem dX6_come_130 : decode cX6_come 130 = .ok (.aload_n 3, 1) := by decide +kernel
theorem dX6_come_131 : decode cX6_come 131 = .ok (.aload 4, 2) := by decide +kernel
theorem dX6_come_133 : decode cX6_come 133 = .ok (.invokevirtual 282, 3) := by decide +kernel
theorem dX6_come_136 : decode cX6_come 136 = .ok (.goto 13, 3) := by decide +kernel
theorem dX6_come_139 : decode cX6_come 139 = .ok (.aload_n 0, 1) := by decide +kernel
theorem dX6_come_140 : decode cX6_come 140 = .ok (.aload_n 3, 1) := by decide +kernel
theorem dX6_come_141 : decode cX6_come 141 = .ok (.aload 4, 2) := by decide +kernel
theorem dX6_come_143 : decode cX6_come 143 = .ok (.iload_n 2, 1) := by decide +kernel
theorem dX6_come_144 : decode cX6_come 144 = .ok (.invokevirtual 286, 3) := by decide +kernel
theorem dX6_come_147 : decode cX6_come 147 = .ok (.istore 6, 2) := by decide +kernel
theorem dX6_come_149 : decode cX6_come 149 = .ok (.iload_n 2, 1) := by decide +kernel
theorem dX6_come_150 : decode cX6_come 150 = .ok (.iconst 3, 1) := by decide +kernel
theorem dX6_come_151 : decode cX6_come 151 = .ok (.if_icmp .eq 9, 3) := by decide +kernel
theorem dX6_come_154 : decode cX6_come 154 = .ok (.aload_n 0, 1) := by decide +kernel
theorem dX6_come_155 : decode cX6_come 155 = .ok (.aload 5, 2) := by decide +kernel
theorem dX6_come_157 : decode cX6_come 157 = .ok (.invokevirtual 179, 3) := by decide +kernel
theorem dX6_come_160 : decode cX6_come 160 = .ok (.iload 6, 2) := by decide +kernel
theorem dX6_come_162 : decode cX6_come 162 = .ok (.ireturn, 1) := by decide +kernel
theorem dX6_hear_0 : decode cX6_hear 0 = .ok (.aload_n 2, 1) := by decide +kernel
theorem dX6_hear_1 : decode cX6_hear 1 = .ok (.getfield 92, 3) := by decide +kernel
theorem dX6_hear_4 : decode cX6_hear 4 = .ok (.ifCond .eq 4, 3) := by decide +kernel
theorem dX6_hear_7 : decode cX6_hear 7 = .ok (.return_, 1) := by decide +kernel
theorem dX6_hear_8 : decode cX6_hear 8 = .ok (.aload_n 1, 1) := by decide +kernel
theorem dX6_hear_9 : decode cX6_hear 9 = .ok (.getfield 176, 3) := by decide +kernel
theorem dX6_hear_12 : decode cX6_hear 12 = .ok (.ifCond .eq 11, 3) := by decide +kernel
theorem dX6_hear_15 : decode cX6_hear 15 = .ok (.aload_n 2, 1) := by decide +kernel
theorem dX6_hear_16 : decode cX6_hear 16 = .ok (.iconst 2, 1) := by decide +kernel
theorem dX6_hear_17 : decode cX6_hear 17 = .ok (.putfield 92, 3) := by decide +kernel
theorem dX6_hear_20 : decode cX6_hear 20 = .ok (.goto 11, 3) := by decide +kernel
theorem dX6_hear_23 : decode cX6_hear 23 = .ok (.aload_n 2, 1) := by decide +kernel
theorem dX6_hear_24 : decode cX6_hear 24 = .ok (.aload_n 1, 1) := by decide +kernel
theorem dX6_hear_25 : decode cX6_hear 25 = .ok (.getfield 289, 3) := by decide +kernel
theorem dX6_hear_28 : decode cX6_hear 28 = .ok (.invokevirtual 290, 3) := by decide +kernel
theorem dX6_hear_31 : decode cX6_hear 31 = .ok (.return_, 1) := by decide +kernel
theorem dX6_serve_0 : decode cX6_serve 0 = .ok (.aload_n 0, 1) := by decide +kernel
theorem dX6_serve_1 : decode cX6_serve 1 = .ok (.aload_n 2, 1) := by decide +kernel
theorem dX6_serve_2 : decode cX6_serve 2 = .ok (.getfield 108, 3) := by decide +kernel
theorem dX6_serve_5 : decode cX6_serve 5 = .ok (.invokevirtual 51, 3) := by decide +kernel
theorem dX6_serve_8 : decode cX6_serve 8 = .ok (.astore 4, 2) := by decide +kernel
theorem dX6_serve_10 : decode cX6_serve 10 = .ok (.aload_n 0, 1) := by decide +kernel
theorem dX6_serve_11 : decode cX6_serve 11 = .ok (.aload_n 2, 1) := by decide +kernel
theorem dX6_serve_12 : decode cX6_serve 12 = .ok (.getfield 108, 3) := by decide +kernel
theorem dX6_serve_15 : decode cX6_serve 15 = .ok (.aload_n 2, 1) := by decide +kernel
theorem dX6_serve_16 : decode cX6_serve 16 = .ok (.getfield 89, 3) := by decide +kernel
theorem dX6_serve_19 : decode cX6_serve 19 = .ok (.invokevirtual 191, 3) := by decide +kernel
theorem dX6_serve_22 : decode cX6_serve 22 = .ok (.astore 5, 2) := by decide +kernel
theorem dX6_serve_24 : decode cX6_serve 24 = .ok (.aload 4, 2) := by decide +kernel
theorem dX6_serve_26 : decode cX6_serve 26 = .ok (.ifnull 8, 3) := by decide +kernel
theorem dX6_serve_29 : decode cX6_serve 29 = .ok (.aload 5, 2) := by decide +kernel
theorem dX6_serve_31 : decode cX6_serve 31 = .ok (.ifnonnull 5, 3) := by decide +kernel
theorem dX6_serve_34 : decode cX6_serve 34 = .ok (.iconst 0, 1) := by decide +kernel
theorem dX6_serve_35 : decode cX6_serve 35 = .ok (.ireturn, 1) := by decide +kernel
theorem dX6_serve_36 : decode cX6_serve 36 = .ok (.iload_n 3, 1) := by decide +kernel
theorem dX6_serve_37 : decode cX6_serve 37 = .ok (.iconst 3, 1) := by decide +kernel
theorem dX6_serve_38 : decode cX6_serve 38 = .ok (.if_icmp .ne 7, 3) := by decide +kernel
theorem dX6_serve_41 : decode cX6_serve 41 = .ok (.iconst 1, 1) := by decide +kernel
theorem dX6_serve_42 : decode cX6_serve 42 = .ok (.goto 4, 3) := by decide +kernel
theorem dX6_serve_45 : decode cX6_serve 45 = .ok (.iconst 0, 1) := by decide +kernel
theorem dX6_serve_46 : decode cX6_serve 46 = .ok (.istore 6, 2) := by decide +kernel
theorem dX6_serve_48 : decode cX6_serve 48 = .ok (.aload_n 2, 1) := by decide +kernel
theorem dX6_serve_49 : decode cX6_serve 49 = .ok (.getfield 102, 3) := by decide +kernel
theorem dX6_serve_52 : decode cX6_serve 52 = .ok (.aload 5, 2) := by decide +kernel
theorem dX6_serve_54 : decode cX6_serve 54 = .ok (.getfield 195, 3) := by decide +kernel
theorem dX6_serve_57 : decode cX6_serve 57 = .ok (.if_icmp .ge 11, 3) := by decide +kernel
theorem dX6_serve_60 : decode cX6_serve 60 = .ok (.aload_n 0, 1) := by decide +kernel
theorem dX6_serve_61 : decode cX6_serve 61 = .ok (.aload_n 2, 1) := by decide +kernel
theorem dX6_serve_62 : decode cX6_serve 62 = .ok (.iload 6, 2) := by decide +kernel
theorem dX6_serve_64 : decode cX6_serve 64 = .ok (.invokevirtual 294, 3) := by decide +kernel
theorem dX6_serve_67 : decode cX6_serve 67 = .ok (.ireturn, 1) := by decide +kernel
theorem dX6_serve_68 : decode cX6_serve 68 = .ok (.aload_n 2, 1) := by decide +kernel
theorem dX6_serve_69 : decode cX6_serve 69 = .ok (.getfield 102, 3) := by decide +kernel
theorem dX6_serve_72 : decode cX6_serve 72 = .ok (.aload 5, 2) := by decide +kernel
theorem dX6_serve_74 : decode cX6_serve 74 = .ok (.getfield 195, 3) := by decide +kernel
theorem dX6_serve_77 : decode cX6_serve 77 = .ok (.if_icmp .le 12, 3) := by decide +kernel
theorem dX6_serve_80 : decode cX6_serve 80 = .ok (.aload 5, 2) := by decide +kernel
theorem dX6_serve_82 : decode cX6_serve 82 = .ok (.aload_n 2, 1) := by decide +kernel
theorem dX6_serve_83 : decode cX6_serve 83 = .ok (.getfield 102, 3) := by decide +kernel
theorem dX6_serve_86 : decode cX6_serve 86 = .ok (.invokevirtual 211, 3) := by decide +kernel
theorem dX6_serve_89 : decode cX6_serve 89 = .ok (.aload 5, 2) := by decide +kernel
theorem dX6_serve_91 : decode cX6_serve 91 = .ok (.aload_n 1, 1) := by decide +kernel
theorem dX6_serve_92 : decode cX6_serve 92 = .ok (.getfield 173, 3) := by decide +kernel
theorem dX6_serve_95 : decode cX6_serve 95 = .ok (.invokevirtual 297, 3) := by decide +kernel
theorem dX6_serve_98 : decode cX6_serve 98 = .ok (.iload_n 3, 1) := by decide +kernel
theorem dX6_serve_99 : decode cX6_serve 99 = .ok (.iconst 1, 1) := by decide +kernel
theorem dX6_serve_100 : decode cX6_serve 100 = .ok (.if_icmp .eq 15, 3) := by decide +kernel
theorem dX6_serve_103 : decode cX6_serve 103 = .ok (.aload_n 2, 1) := by decide +kernel
theorem dX6_serve_104 : decode cX6_serve 104 = .ok (.getfield 105, 3) := by decide +kernel
theorem dX6_serve_107 : decode cX6_serve 107 = .ok (.aload 5, 2) := by decide +kernel
theorem dX6_serve_109 : decode cX6_serve 109 = .ok (.getfield 198, 3) := by decide +kernel
theorem dX6_serve_112 : decode cX6_serve 112 = .ok (.if_icmp .ge 5, 3) := by decide +kernel
theorem dX6_serve_115 : decode cX6_serve 115 = .ok (.iconst 0, 1) := by decide +kernel
theorem dX6_serve_116 : decode cX6_serve 116 = .ok (.ireturn, 1) := by decide +kernel
theorem dX6_serve_117 : decode cX6_serve 117 = .ok (.aload 5, 2) := by decide +kernel
theorem dX6_serve_119 : decode cX6_serve 119 = .ok (.aload_n 2, 1) := by decide +kernel
theorem dX6_serve_120 : decode cX6_serve 120 = .ok (.getfield 105, 3) := by decide +kernel
theorem dX6_serve_123 : decode cX6_serve 123 = .ok (.invokevirtual 204, 3) := by decide +kernel
theorem dX6_serve_126 : decode cX6_serve 126 = .ok (.lookupswitch 49 #[(0, 26), (2, 38)], 26) := by decide +kernel
theorem dX6_serve_152 : decode cX6_serve 152 = .ok (.aload_n 0, 1) := by decide +kernel
theorem dX6_serve_153 : decode cX6_serve 153 = .ok (.aload 4, 2) := by decide +kernel
theorem dX6_serve_155 : decode cX6_serve 155 = .ok (.aload 5, 2) := by decide +kernel
theorem dX6_serve_157 : decode cX6_serve 157 = .ok (.aload_n 2, 1) := by decide +kernel
theorem dX6_serve_158 : decode cX6_serve 158 = .ok (.iload 6, 2) := by decide +kernel
theorem dX6_serve_160 : decode cX6_serve 160 = .ok (.invokevirtual 300, 3) := by decide +kernel
theorem dX6_serve_163 : decode cX6_serve 163 = .ok (.ireturn, 1) := by decide +kernel
theorem dX6_serve_164 : decode cX6_serve 164 = .ok (.aload_n 0, 1) := by decide +kernel
theorem dX6_serve_165 : decode cX6_serve 165 = .ok (.aload_n 2, 1) := by decide +kernel
theorem dX6_serve_166 : decode cX6_serve 166 = .ok (.getfield 122, 3) := by decide +kernel
theorem dX6_serve_169 : decode cX6_serve 169 = .ok (.iload 6, 2) := by decide +kernel
theorem dX6_serve_171 : decode cX6_serve 171 = .ok (.invokevirtual 304, 3) := by decide +kernel
theorem dX6_serve_174 : decode cX6_serve 174 = .ok (.ireturn, 1) := by decide +kernel
theorem dX6_serve_175 : decode cX6_serve 175 = .ok (.aload_n 0, 1) := by decide +kernel
theorem dX6_serve_176 : decode cX6_serve 176 = .ok (.aload_n 2, 1) := by decide +kernel
theorem dX6_serve_177 : decode cX6_serve 177 = .ok (.aload 5, 2) := by decide +kernel
theorem dX6_serve_179 : decode cX6_serve 179 = .ok (.aload_n 2, 1) := by decide +kernel
theorem dX6_serve_180 : decode cX6_serve 180 = .ok (.getfield 105, 3) := by decide +kernel
theorem dX6_serve_183 : decode cX6_serve 183 = .ok (.invokevirtual 307, 3) := by decide +kernel
theorem dX6_serve_186 : decode cX6_serve 186 = .ok (.iload 6, 2) := by decide +kernel
theorem dX6_serve_188 : decode cX6_serve 188 = .ok (.invokevirtual 310, 3) := by decide +kernel
theorem dX6_serve_191 : decode cX6_serve 191 = .ok (.ireturn, 1) := by decide +kernel
theorem dX6_remind_0 : decode cX6_remind 0 = .ok (.aload_n 1, 1) := by decide +kernel
theorem dX6_remind_1 : decode cX6_remind 1 = .ok (.ifnull 19, 3) := by decide +kernel
theorem dX6_remind_4 : decode cX6_remind 4 = .ok (.aload_n 1, 1) := by decide +kernel
theorem dX6_remind_5 : decode cX6_remind 5 = .ok (.getfield 92, 3) := by decide +kernel
theorem dX6_remind_8 : decode cX6_remind 8 = .ok (.ifCond .ne 12, 3) := by decide +kernel
theorem dX6_remind_11 : decode cX6_remind 11 = .ok (.aload_n 0, 1) := by decide +kernel
theorem dX6_remind_12 : decode cX6_remind 12 = .ok (.aload_n 1, 1) := by decide +kernel
theorem dX6_remind_13 : decode cX6_remind 13 = .ok (.iload_n 2, 1) := by decide +kernel
theorem dX6_remind_14 : decode cX6_remind 14 = .ok (.invokevirtual 78, 3) := by decide +kernel
theorem dX6_remind_17 : decode cX6_remind 17 = .ok (.goto 4, 3) := by decide +kernel
theorem dX6_remind_20 : decode cX6_remind 20 = .ok (.iconst 0, 1) := by decide +kernel
theorem dX6_remind_21 : decode cX6_remind 21 = .ok (.ireturn, 1) := by decide +kernel
theorem dX6_act_0 : decode cX6_act 0 = .ok (.aload_n 3, 1) := by decide +kernel
theorem dX6_act_1 : decode cX6_act 1 = .ok (.getfield 111, 3) := by decide +kernel
theorem dX6_act_4 : decode cX6_act 4 = .ok (.ifCond .ne 19, 3) := by decide +kernel
theorem dX6_act_7 : decode cX6_act 7 = .ok (.aload_n 0, 1) := by decide +kernel
theorem dX6_act_8 : decode cX6_act 8 = .ok (.aload_n 3, 1) := by decide +kernel
theorem dX6_act_9 : decode cX6_act 9 = .ok (.aload_n 1, 1) := by decide +kernel
theorem dX6_act_10 : decode cX6_act 10 = .ok (.aload_n 3, 1) := by decide +kernel
theorem dX6_act_11 : decode cX6_act 11 = .ok (.getfield 252, 3) := by decide +kernel
theorem dX6_act_14 : decode cX6_act 14 = .ok (.invokevirtual 187, 3) := by decide +kernel
theorem dX6_act_17 : decode cX6_act 17 = .ok (.iload 4, 2) := by decide +kernel
theorem dX6_act_19 : decode cX6_act 19 = .ok (.invokevirtual 310, 3) := by decide +kernel
theorem dX6_act_22 : decode cX6_act 22 = .ok (.ireturn, 1) := by decide +kernel
theorem dX6_act_23 : decode cX6_act 23 = .ok (.aload_n 3, 1) := by decide +kernel
theorem dX6_act_24 : decode cX6_act 24 = .ok (.getfield 111, 3) := by decide +kernel
theorem dX6_act_27 : decode cX6_act 27 = .ok (.iconst 3, 1) := by decide +kernel
theorem dX6_act_28 : decode cX6_act 28 = .ok (.if_icmp .ne 13, 3) := by decide +kernel
theorem dX6_act_31 : decode cX6_act 31 = .ok (.aload_n 0, 1) := by decide +kernel
theorem dX6_act_32 : decode cX6_act 32 = .ok (.aload_n 1, 1) := by decide +kernel
theorem dX6_act_33 : decode cX6_act 33 = .ok (.aload_n 2, 1) := by decide +kernel
theorem dX6_act_34 : decode cX6_act 34 = .ok (.aload_n 3, 1) := by decide +kernel
theorem dX6_act_35 : decode cX6_act 35 = .ok (.invokevirtual 314, 3) := by decide +kernel
theorem dX6_act_38 : decode cX6_act 38 = .ok (.goto 4, 3) := by decide +kernel
theorem dX6_act_41 : decode cX6_act 41 = .ok (.aconst_null, 1) := by decide +kernel
theorem dX6_act_42 : decode cX6_act 42 = .ok (.astore 5, 2) := by decide +kernel
theorem dX6_act_44 : decode cX6_act 44 = .ok (.aload 5, 2) := by decide +kernel
theorem dX6_act_46 : decode cX6_act 46 = .ok (.ifnull 12, 3) := by decide +kernel
theorem dX6_act_49 : decode cX6_act 49 = .ok (.aload_n 0, 1) := by decide +kernel
theorem dX6_act_50 : decode cX6_act 50 = .ok (.aload 5, 2) := by decide +kernel
theorem dX6_act_52 : decode cX6_act 52 = .ok (.iload 4, 2) := by decide +kernel
theorem dX6_act_54 : decode cX6_act 54 = .ok (.invokevirtual 78, 3) := by decide +kernel
theorem dX6_act_57 : decode cX6_act 57 = .ok (.ireturn, 1) := by decide +kernel
theorem dX6_act_58 : decode cX6_act 58 = .ok (.ldc2_w 318, 3) := by decide +kernel
theorem dX6_act_61 : decode cX6_act 61 = .ok (.lstore 6, 2) := by decide +kernel
theorem dX6_act_63 : decode cX6_act 63 = .ok (.aload_n 3, 1) := by decide +kernel
theorem dX6_act_64 : decode cX6_act 64 = .ok (.getfield 111, 3) := by decide +kernel
theorem dX6_act_67 : decode cX6_act 67 = .ok (.iconst 1, 1) := by decide +kernel
theorem dX6_act_68 : decode cX6_act 68 = .ok (.if_icmp .ne 11, 3) := by decide +kernel
theorem dX6_act_71 : decode cX6_act 71 = .ok (.aload_n 0, 1) := by decide +kernel
theorem dX6_act_72 : decode cX6_act 72 = .ok (.aload_n 1, 1) := by decide +kernel
theorem dX6_act_73 : decode cX6_act 73 = .ok (.aload_n 3, 1) := by decide +kernel
theorem dX6_act_74 : decode cX6_act 74 = .ok (.invokevirtual 320, 3) := by decide +kernel
theorem dX6_act_77 : decode cX6_act 77 = .ok (.lstore 6, 2) := by decide +kernel
theorem dX6_act_79 : decode cX6_act 79 = .ok (.aload_n 3, 1) := by decide +kernel
theorem dX6_act_80 : decode cX6_act 80 = .ok (.getfield 111, 3) := by decide +kernel
theorem dX6_act_83 : decode cX6_act 83 = .ok (.iconst 2, 1) := by decide +kernel
theorem dX6_act_84 : decode cX6_act 84 = .ok (.if_icmp .ne 11, 3) := by decide +kernel
theorem dX6_act_87 : decode cX6_act 87 = .ok (.aload_n 0, 1) := by decide +kernel
theorem dX6_act_88 : decode cX6_act 88 = .ok (.aload_n 1, 1) := by decide +kernel
theorem dX6_act_89 : decode cX6_act 89 = .ok (.aload_n 3, 1) := by decide +kernel
theorem dX6_act_90 : decode cX6_act 90 = .ok (.invokevirtual 324, 3) := by decide +kernel
theorem dX6_act_93 : decode cX6_act 93 = .ok (.lstore 6, 2) := by decide +kernel
theorem dX6_act_95 : decode cX6_act 95 = .ok (.aload_n 3, 1) := by decide +kernel
theorem dX6_act_96 : decode cX6_act 96 = .ok (.getfield 111, 3) := by decide +kernel
theorem dX6_act_99 : decode cX6_act 99 = .ok (.iconst 4, 1) := by decide +kernel
theorem dX6_act_100 : decode cX6_act 100 = .ok (.if_icmp .ne 11, 3) := by decide +kernel
theorem dX6_act_103 : decode cX6_act 103 = .ok (.aload_n 0, 1) := by decide +kernel
theorem dX6_act_104 : decode cX6_act 104 = .ok (.aload_n 2, 1) := by decide +kernel
theorem dX6_act_105 : decode cX6_act 105 = .ok (.aload_n 3, 1) := by decide +kernel
theorem dX6_act_106 : decode cX6_act 106 = .ok (.invokevirtual 327, 3) := by decide +kernel
theorem dX6_act_109 : decode cX6_act 109 = .ok (.lstore 6, 2) := by decide +kernel
theorem dX6_act_111 : decode cX6_act 111 = .ok (.aload_n 2, 1) := by decide +kernel
theorem dX6_act_112 : decode cX6_act 112 = .ok (.aload_n 3, 1) := by decide +kernel
theorem dX6_act_113 : decode cX6_act 113 = .ok (.getfield 105, 3) := by decide +kernel
theorem dX6_act_116 : decode cX6_act 116 = .ok (.iconst 1, 1) := by decide +kernel
theorem dX6_act_117 : decode cX6_act 117 = .ok (.lload 6, 2) := by decide +kernel
theorem dX6_act_119 : decode cX6_act 119 = .ok (.invokevirtual 331, 3) := by decide +kernel
theorem dX6_act_122 : decode cX6_act 122 = .ok (.aload_n 0, 1) := by decide +kernel
theorem dX6_act_123 : decode cX6_act 123 = .ok (.aload_n 3, 1) := by decide +kernel
theorem dX6_act_124 : decode cX6_act 124 = .ok (.lload 6, 2) := by decide +kernel
theorem dX6_act_126 : decode cX6_act 126 = .ok (.iload 4, 2) := by decide +kernel
theorem dX6_act_128 : decode cX6_act 128 = .ok (.invokevirtual 310, 3) := by decide +kernel
theorem dX6_act_131 : decode cX6_act 131 = .ok (.ireturn, 1) := by decide +kernel
theorem dX6_add_0 : decode cX6_add 0 = .ok (.aload_n 2, 1) := by decide +kernel
theorem dX6_add_1 : decode cX6_add 1 = .ok (.getfield 89, 3) := by decide +kernel
theorem dX6_add_4 : decode cX6_add 4 = .ok (.bipush 6, 2) := by decide +kernel
theorem dX6_add_6 : decode cX6_add 6 = .ok (.if_icmp .ge 23, 3) := by decide +kernel
theorem dX6_add_9 : decode cX6_add 9 = .ok (.aload_n 1, 1) := by decide +kernel
theorem dX6_add_10 : decode cX6_add 10 = .ok (.aload_n 2, 1) := by decide +kernel
theorem dX6_add_11 : decode cX6_add 11 = .ok (.getfield 252, 3) := by decide +kernel
theorem dX6_add_14 : decode cX6_add 14 = .ok (.aload_n 2, 1) := by decide +kernel
theorem dX6_add_15 : decode cX6_add 15 = .ok (.getfield 261, 3) := by decide +kernel
theorem dX6_add_18 : decode cX6_add 18 = .ok (.i2l, 1) := by decide +kernel
theorem dX6_add_19 : decode cX6_add 19 = .ok (.invokevirtual 335, 3) := by decide +kernel
theorem dX6_add_22 : decode cX6_add 22 = .ok (.ifCond .ne 7, 3) := by decide +kernel
theorem dX6_add_25 : decode cX6_add 25 = .ok (.ldc2_w 318, 3) := by decide +kernel
theorem dX6_add_28 : decode cX6_add 28 = .ok (.lreturn, 1) := by decide +kernel
theorem dX6_add_29 : decode cX6_add 29 = .ok (.aload_n 1, 1) := by decide +kernel
theorem dX6_add_30 : decode cX6_add 30 = .ok (.aload_n 2, 1) := by decide +kernel
theorem dX6_add_31 : decode cX6_add 31 = .ok (.getfield 252, 3) := by decide +kernel
theorem dX6_add_34 : decode cX6_add 34 = .ok (.aload_n 2, 1) := by decide +kernel
theorem dX6_add_35 : decode cX6_add 35 = .ok (.getfield 261, 3) := by decide +kernel
theorem dX6_add_38 : decode cX6_add 38 = .ok (.i2l, 1) := by decide +kernel
theorem dX6_add_39 : decode cX6_add 39 = .ok (.invokevirtual 339, 3) := by decide +kernel
theorem dX6_add_42 : decode cX6_add 42 = .ok (.aload_n 2, 1) := by decide +kernel
theorem dX6_add_43 : decode cX6_add 43 = .ok (.iconst 1, 1) := by decide +kernel
theorem dX6_add_44 : decode cX6_add 44 = .ok (.putfield 213, 3) := by decide +kernel
theorem dX6_add_47 : decode cX6_add 47 = .ok (.aload_n 1, 1) := by decide +kernel
theorem dX6_add_48 : decode cX6_add 48 = .ok (.aload_n 2, 1) := by decide +kernel
theorem dX6_add_49 : decode cX6_add 49 = .ok (.getfield 252, 3) := by decide +kernel
theorem dX6_add_52 : decode cX6_add 52 = .ok (.invokevirtual 187, 3) := by decide +kernel
theorem dX6_add_55 : decode cX6_add 55 = .ok (.lreturn, 1) := by decide +kernel
theorem dX6_move_0 : decode cX6_move 0 = .ok (.aload_n 2, 1) := by decide +kernel
theorem dX6_move_1 : decode cX6_move 1 = .ok (.getfield 252, 3) := by decide +kernel
theorem dX6_move_4 : decode cX6_move 4 = .ok (.aload_n 2, 1) := by decide +kernel
theorem dX6_move_5 : decode cX6_move 5 = .ok (.getfield 255, 3) := by decide +kernel
theorem dX6_move_8 : decode cX6_move 8 = .ok (.if_icmp .eq 67, 3) := by decide +kernel
theorem dX6_move_11 : decode cX6_move 11 = .ok (.aload_n 1, 1) := by decide +kernel
theorem dX6_move_12 : decode cX6_move 12 = .ok (.aload_n 2, 1) := by decide +kernel
theorem dX6_move_13 : decode cX6_move 13 = .ok (.getfield 252, 3) := by decide +kernel
theorem dX6_move_16 : decode cX6_move 16 = .ok (.aload_n 2, 1) := by decide +kernel
theorem dX6_move_17 : decode cX6_move 17 = .ok (.getfield 261, 3) := by decide +kernel
theorem dX6_move_20 : decode cX6_move 20 = .ok (.ineg, 1) := by decide +kernel
theorem dX6_move_21 : decode cX6_move 21 = .ok (.i2l, 1) := by decide +kernel
theorem dX6_move_22 : decode cX6_move 22 = .ok (.invokevirtual 335, 3) := by decide +kernel
theorem dX6_move_25 : decode cX6_move 25 = .ok (.ifCond .eq 19, 3) := by decide +kernel
theorem dX6_move_28 : decode cX6_move 28 = .ok (.aload_n 1, 1) := by decide +kernel
theorem dX6_move_29 : decode cX6_move 29 = .ok (.aload_n 2, 1) := by decide +kernel
theorem dX6_move_30 : decode cX6_move 30 = .ok (.getfield 255, 3) := by decide +kernel
theorem dX6_move_33 : decode cX6_move 33 = .ok (.aload_n 2, 1) := by decide +kernel
theorem dX6_move_34 : decode cX6_move 34 = .ok (.getfield 261, 3) := by decide +kernel
theorem dX6_move_37 : decode cX6_move 37 = .ok (.i2l, 1) := by decide +kernel
theorem dX6_move_38 : decode cX6_move 38 = .ok (.invokevirtual 335, 3) := by decide +kernel
theorem dX6_move_41 : decode cX6_move 41 = .ok (.ifCond .ne 7, 3) := by decide +kernel
theorem dX6_move_44 : decode cX6_move 44 = .ok (.ldc2_w 318, 3) := by decide +kernel
theorem dX6_move_47 : decode cX6_move 47 = .ok (.lreturn, 1) := by decide +kernel
theorem dX6_move_48 : decode cX6_move 48 = .ok (.aload_n 1, 1) := by decide +kernel
theorem dX6_move_49 : decode cX6_move 49 = .ok (.aload_n 2, 1) := by decide +kernel
theorem dX6_move_50 : decode cX6_move 50 = .ok (.getfield 252, 3) := by decide +kernel
theorem dX6_move_53 : decode cX6_move 53 = .ok (.aload_n 2, 1) := by decide +kernel
theorem dX6_move_54 : decode cX6_move 54 = .ok (.getfield 261, 3) := by decide +kernel
theorem dX6_move_57 : decode cX6_move 57 = .ok (.ineg, 1) := by decide +kernel
theorem dX6_move_58 : decode cX6_move 58 = .ok (.i2l, 1) := by decide +kernel
theorem dX6_move_59 : decode cX6_move 59 = .ok (.invokevirtual 339, 3) := by decide +kernel
theorem dX6_move_62 : decode cX6_move 62 = .ok (.aload_n 1, 1) := by decide +kernel
theorem dX6_move_63 : decode cX6_move 63 = .ok (.aload_n 2, 1) := by decide +kernel
theorem dX6_move_64 : decode cX6_move 64 = .ok (.getfield 255, 3) := by decide +kernel
theorem dX6_move_67 : decode cX6_move 67 = .ok (.aload_n 2, 1) := by decide +kernel
theorem dX6_move_68 : decode cX6_move 68 = .ok (.getfield 261, 3) := by decide +kernel
theorem dX6_move_71 : decode cX6_move 71 = .ok (.i2l, 1) := by decide +kernel
theorem dX6_move_72 : decode cX6_move 72 = .ok (.invokevirtual 339, 3) := by decide +kernel
theorem dX6_move_75 : decode cX6_move 75 = .ok (.aload_n 2, 1) := by decide +kernel
theorem dX6_move_76 : decode cX6_move 76 = .ok (.iconst 1, 1) := by decide +kernel
theorem dX6_move_77 : decode cX6_move 77 = .ok (.putfield 213, 3) := by decide +kernel
theorem dX6_move_80 : decode cX6_move 80 = .ok (.aload_n 1, 1) := by decide +kernel
theorem dX6_move_81 : decode cX6_move 81 = .ok (.aload_n 2, 1) := by decide +kernel
theorem dX6_move_82 : decode cX6_move 82 = .ok (.getfield 252, 3) := by decide +kernel
theorem dX6_move_85 : decode cX6_move 85 = .ok (.invokevirtual 187, 3) := by decide +kernel
theorem dX6_move_88 : decode cX6_move 88 = .ok (.lreturn, 1) := by decide +kernel
theorem dX6_cancel_0 : decode cX6_cancel 0 = .ok (.aload_n 2, 1) := by decide +kernel
theorem dX6_cancel_1 : decode cX6_cancel 1 = .ok (.getfield 261, 3) := by decide +kernel
theorem dX6_cancel_4 : decode cX6_cancel 4 = .ok (.istore_n 3, 1) := by decide +kernel
theorem dX6_cancel_5 : decode cX6_cancel 5 = .ok (.aload_n 1, 1) := by decide +kernel
theorem dX6_cancel_6 : decode cX6_cancel 6 = .ok (.iload_n 3, 1) := by decide +kernel
theorem dX6_cancel_7 : decode cX6_cancel 7 = .ok (.invokevirtual 204, 3) := by decide +kernel
theorem dX6_cancel_10 : decode cX6_cancel 10 = .ok (.istore 4, 2) := by decide +kernel
theorem dX6_cancel_12 : decode cX6_cancel 12 = .ok (.iload_n 3, 1) := by decide +kernel
theorem dX6_cancel_13 : decode cX6_cancel 13 = .ok (.aload_n 2, 1) := by decide +kernel
theorem dX6_cancel_14 : decode cX6_cancel 14 = .ok (.getfield 105, 3) := by decide +kernel
theorem dX6_cancel_17 : decode cX6_cancel 17 = .ok (.if_icmp .eq 17, 3) := by decide +kernel
theorem dX6_cancel_20 : decode cX6_cancel 20 = .ok (.iload_n 3, 1) := by decide +kernel
theorem dX6_cancel_21 : decode cX6_cancel 21 = .ok (.aload_n 1, 1) := by decide +kernel
theorem dX6_cancel_22 : decode cX6_cancel 22 = .ok (.getfield 198, 3) := by decide +kernel
theorem dX6_cancel_25 : decode cX6_cancel 25 = .ok (.if_icmp .lt 9, 3) := by decide +kernel
theorem dX6_cancel_28 : decode cX6_cancel 28 = .ok (.iload 4, 2) := by decide +kernel
theorem dX6_cancel_30 : decode cX6_cancel 30 = .ok (.iconst 1, 1) := by decide +kernel
theorem dX6_cancel_31 : decode cX6_cancel 31 = .ok (.if_icmp .ne 5, 3) := by decide +kernel
theorem dX6_cancel_34 : decode cX6_cancel 34 = .ok (.lconst 0, 1) := by decide +kernel
theorem dX6_cancel_35 : decode cX6_cancel 35 = .ok (.lreturn, 1) := by decide +kernel
theorem dX6_cancel_36 : decode cX6_cancel 36 = .ok (.iload 4, 2) := by decide +kernel
theorem dX6_cancel_38 : decode cX6_cancel 38 = .ok (.iconst 2, 1) := by decide +kernel
theorem dX6_cancel_39 : decode cX6_cancel 39 = .ok (.if_icmp .ne 7, 3) := by decide +kernel
theorem dX6_cancel_42 : decode cX6_cancel 42 = .ok (.ldc2_w 343, 3) := by decide +kernel
theorem dX6_cancel_45 : decode cX6_cancel 45 = .ok (.lreturn, 1) := by decide +kernel
theorem dX6_cancel_46 : decode cX6_cancel 46 = .ok (.aload_n 1, 1) := by decide +kernel
theorem dX6_cancel_47 : decode cX6_cancel 47 = .ok (.iload_n 3, 1) := by decide +kernel
theorem dX6_cancel_48 : decode cX6_cancel 48 = .ok (.invokevirtual 345, 3) := by decide +kernel
theorem dX6_cancel_51 : decode cX6_cancel 51 = .ok (.ifCond .ne 7, 3) := by decide +kernel
theorem dX6_cancel_54 : decode cX6_cancel 54 = .ok (.ldc2_w 348, 3) := by decide +kernel
theorem dX6_cancel_57 : decode cX6_cancel 57 = .ok (.lreturn, 1) := by decide +kernel
theorem dX6_cancel_58 : decode cX6_cancel 58 = .ok (.aload_n 1, 1) := by decide +kernel
theorem dX6_cancel_59 : decode cX6_cancel 59 = .ok (.iload_n 3, 1) := by decide +kernel
theorem dX6_cancel_60 : decode cX6_cancel 60 = .ok (.iconst 3, 1) := by decide +kernel
theorem dX6_cancel_61 : decode cX6_cancel 61 = .ok (.ldc2_w 350, 3) := by decide +kernel
theorem dX6_cancel_64 : decode cX6_cancel 64 = .ok (.invokevirtual 331, 3) := by decide +kernel
theorem dX6_cancel_67 : decode cX6_cancel 67 = .ok (.lconst 1, 1) := by decide +kernel
theorem dX6_cancel_68 : decode cX6_cancel 68 = .ok (.lreturn, 1) := by decide +kernel
theorem dX6_beginFar_0 : decode cX6_beginFar 0 = .ok (.aload_n 0, 1) := by decide +kernel
theorem dX6_beginFar_1 : decode cX6_beginFar 1 = .ok (.bipush 6, 2) := by decide +kernel
theorem dX6_beginFar_3 : decode cX6_beginFar 3 = .ok (.aload_n 3, 1) := by decide +kernel
theorem dX6_beginFar_4 : decode cX6_beginFar 4 = .ok (.getfield 108, 3) := by decide +kernel
theorem dX6_beginFar_7 : decode cX6_beginFar 7 = .ok (.iadd, 1) := by decide +kernel
theorem dX6_beginFar_8 : decode cX6_beginFar 8 = .ok (.invokevirtual 64, 3) := by decide +kernel
theorem dX6_beginFar_11 : decode cX6_beginFar 11 = .ok (.astore 4, 2) := by decide +kernel
theorem dX6_beginFar_13 : decode cX6_beginFar 13 = .ok (.aload 4, 2) := by decide +kernel
theorem dX6_beginFar_15 : decode cX6_beginFar 15 = .ok (.ifnull 20, 3) := by decide +kernel
theorem dX6_beginFar_18 : decode cX6_beginFar 18 = .ok (.aload_n 1, 1) := by decide +kernel
theorem dX6_beginFar_19 : decode cX6_beginFar 19 = .ok (.aload_n 3, 1) := by decide +kernel
theorem dX6_beginFar_20 : decode cX6_beginFar 20 = .ok (.getfield 252, 3) := by decide +kernel
theorem dX6_beginFar_23 : decode cX6_beginFar 23 = .ok (.aload_n 3, 1) := by decide +kernel
theorem dX6_beginFar_24 : decode cX6_beginFar 24 = .ok (.getfield 261, 3) := by decide +kernel
theorem dX6_beginFar_27 : decode cX6_beginFar 27 = .ok (.ineg, 1) := by decide +kernel
theorem dX6_beginFar_28 : decode cX6_beginFar 28 = .ok (.i2l, 1) := by decide +kernel
theorem dX6_beginFar_29 : decode cX6_beginFar 29 = .ok (.invokevirtual 335, 3) := by decide +kernel
theorem dX6_beginFar_32 : decode cX6_beginFar 32 = .ok (.ifCond .ne 5, 3) := by decide +kernel
theorem dX6_beginFar_35 : decode cX6_beginFar 35 = .ok (.aconst_null, 1) := by decide +kernel
theorem dX6_beginFar_36 : decode cX6_beginFar 36 = .ok (.areturn, 1) := by decide +kernel
theorem dX6_beginFar_37 : decode cX6_beginFar 37 = .ok (.aload_n 0, 1) := by decide +kernel
theorem dX6_beginFar_38 : decode cX6_beginFar 38 = .ok (.aload 4, 2) := by decide +kernel
theorem dX6_beginFar_40 : decode cX6_beginFar 40 = .ok (.aload_n 3, 1) := by decide +kernel
theorem dX6_beginFar_41 : decode cX6_beginFar 41 = .ok (.getfield 258, 3) := by decide +kernel
theorem dX6_beginFar_44 : decode cX6_beginFar 44 = .ok (.iconst 1, 1) := by decide +kernel
theorem dX6_beginFar_45 : decode cX6_beginFar 45 = .ok (.aload_n 3, 1) := by decide +kernel
theorem dX6_beginFar_46 : decode cX6_beginFar 46 = .ok (.getfield 255, 3) := by decide +kernel
theorem dX6_beginFar_49 : decode cX6_beginFar 49 = .ok (.aload_n 3, 1) := by decide +kernel
theorem dX6_beginFar_50 : decode cX6_beginFar 50 = .ok (.getfield 255, 3) := by decide +kernel
theorem dX6_beginFar_53 : decode cX6_beginFar 53 = .ok (.aload_n 3, 1) := by decide +kernel
theorem dX6_beginFar_54 : decode cX6_beginFar 54 = .ok (.getfield 258, 3) := by decide +kernel
theorem dX6_beginFar_57 : decode cX6_beginFar 57 = .ok (.aload_n 3, 1) := by decide +kernel
theorem dX6_beginFar_58 : decode cX6_beginFar 58 = .ok (.getfield 261, 3) := by decide +kernel
theorem dX6_beginFar_61 : decode cX6_beginFar 61 = .ok (.invokevirtual 73, 3) := by decide +kernel
theorem dX6_beginFar_64 : decode cX6_beginFar 64 = .ok (.astore 5, 2) := by decide +kernel
theorem dX6_beginFar_66 : decode cX6_beginFar 66 = .ok (.aload 5, 2) := by decide +kernel
theorem dX6_beginFar_68 : decode cX6_beginFar 68 = .ok (.ifnonnull 5, 3) := by decide +kernel
theorem dX6_beginFar_71 : decode cX6_beginFar 71 = .ok (.aconst_null, 1) := by decide +kernel
theorem dX6_beginFar_72 : decode cX6_beginFar 72 = .ok (.areturn, 1) := by decide +kernel
theorem dX6_beginFar_73 : decode cX6_beginFar 73 = .ok (.aload_n 1, 1) := by decide +kernel
theorem dX6_beginFar_74 : decode cX6_beginFar 74 = .ok (.aload_n 3, 1) := by decide +kernel
theorem dX6_beginFar_75 : decode cX6_beginFar 75 = .ok (.getfield 252, 3) := by decide +kernel
theorem dX6_beginFar_78 : decode cX6_beginFar 78 = .ok (.aload_n 3, 1) := by decide +kernel
theorem dX6_beginFar_79 : decode cX6_beginFar 79 = .ok (.getfield 261, 3) := by decide +kernel
theorem dX6_beginFar_82 : decode cX6_beginFar 82 = .ok (.ineg, 1) := by decide +kernel
theorem dX6_beginFar_83 : decode cX6_beginFar 83 = .ok (.i2l, 1) := by decide +kernel
theorem dX6_beginFar_84 : decode cX6_beginFar 84 = .ok (.invokevirtual 339, 3) := by decide +kernel
theorem dX6_beginFar_87 : decode cX6_beginFar 87 = .ok (.aload_n 2, 1) := by decide +kernel
theorem dX6_beginFar_88 : decode cX6_beginFar 88 = .ok (.aload_n 3, 1) := by decide +kernel
theorem dX6_beginFar_89 : decode cX6_beginFar 89 = .ok (.getfield 105, 3) := by decide +kernel
theorem dX6_beginFar_92 : decode cX6_beginFar 92 = .ok (.iconst 2, 1) := by decide +kernel
theorem dX6_beginFar_93 : decode cX6_beginFar 93 = .ok (.lconst 0, 1) := by decide +kernel
theorem dX6_beginFar_94 : decode cX6_beginFar 94 = .ok (.invokevirtual 331, 3) := by decide +kernel
theorem dX6_beginFar_97 : decode cX6_beginFar 97 = .ok (.aload 5, 2) := by decide +kernel
theorem dX6_beginFar_99 : decode cX6_beginFar 99 = .ok (.aload_n 3, 1) := by decide +kernel
theorem dX6_beginFar_100 : decode cX6_beginFar 100 = .ok (.putfield 114, 3) := by decide +kernel
theorem dX6_beginFar_103 : decode cX6_beginFar 103 = .ok (.aload_n 3, 1) := by decide +kernel
theorem dX6_beginFar_104 : decode cX6_beginFar 104 = .ok (.aload 5, 2) := by decide +kernel
theorem dX6_beginFar_106 : decode cX6_beginFar 106 = .ok (.putfield 122, 3) := by decide +kernel
theorem dX6_beginFar_109 : decode cX6_beginFar 109 = .ok (.aload_n 3, 1) := by decide +kernel
theorem dX6_beginFar_110 : decode cX6_beginFar 110 = .ok (.iconst 1, 1) := by decide +kernel
theorem dX6_beginFar_111 : decode cX6_beginFar 111 = .ok (.putfield 213, 3) := by decide +kernel
theorem dX6_beginFar_114 : decode cX6_beginFar 114 = .ok (.aload 5, 2) := by decide +kernel
theorem dX6_beginFar_116 : decode cX6_beginFar 116 = .ok (.areturn, 1) := by decide +kernel
theorem dX6_finishFar_0 : decode cX6_finishFar 0 = .ok (.iload_n 3, 1) := by decide +kernel
theorem dX6_finishFar_1 : decode cX6_finishFar 1 = .ok (.iconst 1, 1) := by decide +kernel
theorem dX6_finishFar_2 : decode cX6_finishFar 2 = .ok (.if_icmp .eq 10, 3) := by decide +kernel
theorem dX6_finishFar_5 : decode cX6_finishFar 5 = .ok (.aload_n 2, 1) := by decide +kernel
theorem dX6_finishFar_6 : decode cX6_finishFar 6 = .ok (.getfield 92, 3) := by decide +kernel
theorem dX6_finishFar_9 : decode cX6_finishFar 9 = .ok (.ifCond .eq 5, 3) := by decide +kernel
theorem dX6_finishFar_12 : decode cX6_finishFar 12 = .ok (.iconst 0, 1) := by decide +kernel
theorem dX6_finishFar_13 : decode cX6_finishFar 13 = .ok (.ireturn, 1) := by decide +kernel
theorem dX6_finishFar_14 : decode cX6_finishFar 14 = .ok (.aload_n 2, 1) := by decide +kernel
theorem dX6_finishFar_15 : decode cX6_finishFar 15 = .ok (.aload_n 1, 1) := by decide +kernel
theorem dX6_finishFar_16 : decode cX6_finishFar 16 = .ok (.getfield 289, 3) := by decide +kernel
theorem dX6_finishFar_19 : decode cX6_finishFar 19 = .ok (.invokevirtual 290, 3) := by decide +kernel
theorem dX6_finishFar_22 : decode cX6_finishFar 22 = .ok (.aload_n 2, 1) := by decide +kernel
theorem dX6_finishFar_23 : decode cX6_finishFar 23 = .ok (.getfield 114, 3) := by decide +kernel
theorem dX6_finishFar_26 : decode cX6_finishFar 26 = .ok (.astore 4, 2) := by decide +kernel
theorem dX6_finishFar_28 : decode cX6_finishFar 28 = .ok (.aload 4, 2) := by decide +kernel
theorem dX6_finishFar_30 : decode cX6_finishFar 30 = .ok (.ifnonnull 5, 3) := by decide +kernel
theorem dX6_finishFar_33 : decode cX6_finishFar 33 = .ok (.iconst 0, 1) := by decide +kernel
theorem dX6_finishFar_34 : decode cX6_finishFar 34 = .ok (.ireturn, 1) := by decide +kernel
theorem dX6_finishFar_35 : decode cX6_finishFar 35 = .ok (.aload_n 0, 1) := by decide +kernel
theorem dX6_finishFar_36 : decode cX6_finishFar 36 = .ok (.aload 4, 2) := by decide +kernel
theorem dX6_finishFar_38 : decode cX6_finishFar 38 = .ok (.getfield 108, 3) := by decide +kernel
theorem dX6_finishFar_41 : decode cX6_finishFar 41 = .ok (.invokevirtual 51, 3) := by decide +kernel
theorem dX6_finishFar_44 : decode cX6_finishFar 44 = .ok (.astore 5, 2) := by decide +kernel
theorem dX6_finishFar_46 : decode cX6_finishFar 46 = .ok (.aload_n 0, 1) := by decide +kernel
theorem dX6_finishFar_47 : decode cX6_finishFar 47 = .ok (.aload 4, 2) := by decide +kernel
theorem dX6_finishFar_49 : decode cX6_finishFar 49 = .ok (.getfield 108, 3) := by decide +kernel
theorem dX6_finishFar_52 : decode cX6_finishFar 52 = .ok (.aload 4, 2) := by decide +kernel
theorem dX6_finishFar_54 : decode cX6_finishFar 54 = .ok (.getfield 89, 3) := by decide +kernel
theorem dX6_finishFar_57 : decode cX6_finishFar 57 = .ok (.invokevirtual 191, 3) := by decide +kernel
theorem dX6_finishFar_60 : decode cX6_finishFar 60 = .ok (.astore 6, 2) := by decide +kernel
theorem dX6_finishFar_62 : decode cX6_finishFar 62 = .ok (.aload 5, 2) := by decide +kernel
theorem dX6_finishFar_64 : decode cX6_finishFar 64 = .ok (.ifnull 8, 3) := by decide +kernel
theorem dX6_finishFar_67 : decode cX6_finishFar 67 = .ok (.aload 6, 2) := by decide +kernel
theorem dX6_finishFar_69 : decode cX6_finishFar 69 = .ok (.ifnonnull 5, 3) := by decide +kernel
theorem dX6_finishFar_72 : decode cX6_finishFar 72 = .ok (.iconst 0, 1) := by decide +kernel
theorem dX6_finishFar_73 : decode cX6_finishFar 73 = .ok (.ireturn, 1) := by decide +kernel
theorem dX6_finishFar_74 : decode cX6_finishFar 74 = .ok (.aload 6, 2) := by decide +kernel
theorem dX6_finishFar_76 : decode cX6_finishFar 76 = .ok (.getfield 195, 3) := by decide +kernel
theorem dX6_finishFar_79 : decode cX6_finishFar 79 = .ok (.aload 4, 2) := by decide +kernel
theorem dX6_finishFar_81 : decode cX6_finishFar 81 = .ok (.getfield 102, 3) := by decide +kernel
theorem dX6_finishFar_84 : decode cX6_finishFar 84 = .ok (.if_icmp .ne 17, 3) := by decide +kernel
theorem dX6_finishFar_87 : decode cX6_finishFar 87 = .ok (.aload 6, 2) := by decide +kernel
theorem dX6_finishFar_89 : decode cX6_finishFar 89 = .ok (.aload 4, 2) := by decide +kernel
theorem dX6_finishFar_91 : decode cX6_finishFar 91 = .ok (.getfield 105, 3) := by decide +kernel
theorem dX6_finishFar_94 : decode cX6_finishFar 94 = .ok (.invokevirtual 204, 3) := by decide +kernel
theorem dX6_finishFar_97 : decode cX6_finishFar 97 = .ok (.iconst 2, 1) := by decide +kernel
theorem dX6_finishFar_98 : decode cX6_finishFar 98 = .ok (.if_icmp .eq 5, 3) := by decide +kernel
theorem dX6_finishFar_101 : decode cX6_finishFar 101 = .ok (.iconst 0, 1) := by decide +kernel
theorem dX6_finishFar_102 : decode cX6_finishFar 102 = .ok (.ireturn, 1) := by decide +kernel
theorem dX6_finishFar_103 : decode cX6_finishFar 103 = .ok (.aload 5, 2) := by decide +kernel
theorem dX6_finishFar_105 : decode cX6_finishFar 105 = .ok (.aload 4, 2) := by decide +kernel
theorem dX6_finishFar_107 : decode cX6_finishFar 107 = .ok (.getfield 252, 3) := by decide +kernel
theorem dX6_finishFar_110 : decode cX6_finishFar 110 = .ok (.invokevirtual 187, 3) := by decide +kernel
theorem dX6_finishFar_113 : decode cX6_finishFar 113 = .ok (.lstore 7, 2) := by decide +kernel
theorem dX6_finishFar_115 : decode cX6_finishFar 115 = .ok (.aload 6, 2) := by decide +kernel
theorem dX6_finishFar_117 : decode cX6_finishFar 117 = .ok (.aload 4, 2) := by decide +kernel
theorem dX6_finishFar_119 : decode cX6_finishFar 119 = .ok (.getfield 105, 3) := by decide +kernel
theorem dX6_finishFar_122 : decode cX6_finishFar 122 = .ok (.iconst 1, 1) := by decide +kernel
theorem dX6_finishFar_123 : decode cX6_finishFar 123 = .ok (.lload 7, 2) := by decide +kernel
theorem dX6_finishFar_125 : decode cX6_finishFar 125 = .ok (.invokevirtual 331, 3) := by decide +kernel
theorem dX6_finishFar_128 : decode cX6_finishFar 128 = .ok (.aload_n 0, 1) := by decide +kernel
theorem dX6_finishFar_129 : decode cX6_finishFar 129 = .ok (.aload 4, 2) := by decide +kernel
theorem dX6_finishFar_131 : decode cX6_finishFar 131 = .ok (.lload 7, 2) := by decide +kernel
theorem dX6_finishFar_133 : decode cX6_finishFar 133 = .ok (.iload_n 3, 1) := by decide +kernel
theorem dX6_finishFar_134 : decode cX6_finishFar 134 = .ok (.iconst 3, 1) := by decide +kernel
theorem dX6_finishFar_135 : decode cX6_finishFar 135 = .ok (.if_icmp .ne 7, 3) := by decide +kernel
theorem dX6_finishFar_138 : decode cX6_finishFar 138 = .ok (.iconst 1, 1) := by decide +kernel
theorem dX6_finishFar_139 : decode cX6_finishFar 139 = .ok (.goto 4, 3) := by decide +kernel
theorem dX6_finishFar_142 : decode cX6_finishFar 142 = .ok (.iconst 0, 1) := by decide +kernel
theorem dX6_finishFar_143 : decode cX6_finishFar 143 = .ok (.invokevirtual 310, 3) := by decide +kernel
theorem dX6_finishFar_146 : decode cX6_finishFar 146 = .ok (.ireturn, 1) := by decide +kernel
theorem dX6_bringDown_0 : decode cX6_bringDown 0 = .ok (.aload_n 1, 1) := by decide +kernel
theorem dX6_bringDown_1 : decode cX6_bringDown 1 = .ok (.iconst 0, 1) := by decide +kernel
theorem dX6_bringDown_2 : decode cX6_bringDown 2 = .ok (.putfield 68, 3) := by decide +kernel
theorem dX6_bringDown_5 : decode cX6_bringDown 5 = .ok (.aload_n 0, 1) := by decide +kernel
theorem dX6_bringDown_6 : decode cX6_bringDown 6 = .ok (.dup, 1) := by decide +kernel
theorem dX6_bringDown_7 : decode cX6_bringDown 7 = .ok (.getfield 238, 3) := by decide +kernel
theorem dX6_bringDown_10 : decode cX6_bringDown 10 = .ok (.iconst 1, 1) := by decide +kernel
theorem dX6_bringDown_11 : decode cX6_bringDown 11 = .ok (.iadd, 1) := by decide +kernel
theorem dX6_bringDown_12 : decode cX6_bringDown 12 = .ok (.putfield 238, 3) := by decide +kernel
theorem dX6_bringDown_15 : decode cX6_bringDown 15 = .ok (.return_, 1) := by decide +kernel
theorem dX6_sumOfAccounts_0 : decode cX6_sumOfAccounts 0 = .ok (.lconst 0, 1) := by decide +kernel
theorem dX6_sumOfAccounts_1 : decode cX6_sumOfAccounts 1 = .ok (.lstore_n 1, 1) := by decide +kernel
theorem dX6_sumOfAccounts_2 : decode cX6_sumOfAccounts 2 = .ok (.iconst 0, 1) := by decide +kernel
theorem dX6_sumOfAccounts_3 : decode cX6_sumOfAccounts 3 = .ok (.istore_n 3, 1) := by decide +kernel
theorem dX6_sumOfAccounts_4 : decode cX6_sumOfAccounts 4 = .ok (.iload_n 3, 1) := by decide +kernel
theorem dX6_sumOfAccounts_5 : decode cX6_sumOfAccounts 5 = .ok (.iconst 4, 1) := by decide +kernel
theorem dX6_sumOfAccounts_6 : decode cX6_sumOfAccounts 6 = .ok (.if_icmp .ge 35, 3) := by decide +kernel
theorem dX6_sumOfAccounts_9 : decode cX6_sumOfAccounts 9 = .ok (.iconst 0, 1) := by decide +kernel
theorem dX6_sumOfAccounts_10 : decode cX6_sumOfAccounts 10 = .ok (.istore 4, 2) := by decide +kernel
theorem dX6_sumOfAccounts_12 : decode cX6_sumOfAccounts 12 = .ok (.iload 4, 2) := by decide +kernel
theorem dX6_sumOfAccounts_14 : decode cX6_sumOfAccounts 14 = .ok (.bipush 6, 2) := by decide +kernel
theorem dX6_sumOfAccounts_16 : decode cX6_sumOfAccounts 16 = .ok (.if_icmp .ge 19, 3) := by decide +kernel
theorem dX6_sumOfAccounts_19 : decode cX6_sumOfAccounts 19 = .ok (.lload_n 1, 1) := by decide +kernel
theorem dX6_sumOfAccounts_20 : decode cX6_sumOfAccounts 20 = .ok (.aload_n 0, 1) := by decide +kernel
theorem dX6_sumOfAccounts_21 : decode cX6_sumOfAccounts 21 = .ok (.iload_n 3, 1) := by decide +kernel
theorem dX6_sumOfAccounts_22 : decode cX6_sumOfAccounts 22 = .ok (.iload 4, 2) := by decide +kernel
theorem dX6_sumOfAccounts_24 : decode cX6_sumOfAccounts 24 = .ok (.invokevirtual 352, 3) := by decide +kernel
theorem dX6_sumOfAccounts_27 : decode cX6_sumOfAccounts 27 = .ok (.ladd, 1) := by decide +kernel
theorem dX6_sumOfAccounts_28 : decode cX6_sumOfAccounts 28 = .ok (.lstore_n 1, 1) := by decide +kernel
theorem dX6_sumOfAccounts_29 : decode cX6_sumOfAccounts 29 = .ok (.iinc 4 1, 3) := by decide +kernel
theorem dX6_sumOfAccounts_32 : decode cX6_sumOfAccounts 32 = .ok (.goto (-20), 3) := by decide +kernel
theorem dX6_sumOfAccounts_35 : decode cX6_sumOfAccounts 35 = .ok (.iinc 3 1, 3) := by decide +kernel
theorem dX6_sumOfAccounts_38 : decode cX6_sumOfAccounts 38 = .ok (.goto (-34), 3) := by decide +kernel
theorem dX6_sumOfAccounts_41 : decode cX6_sumOfAccounts 41 = .ok (.lload_n 1, 1) := by decide +kernel
theorem dX6_sumOfAccounts_42 : decode cX6_sumOfAccounts 42 = .ok (.lreturn, 1) := by decide +kernel
theorem dX6_sumUnderWay_0 : decode cX6_sumUnderWay 0 = .ok (.lconst 0, 1) := by decide +kernel
theorem dX6_sumUnderWay_1 : decode cX6_sumUnderWay 1 = .ok (.lstore_n 1, 1) := by decide +kernel
theorem dX6_sumUnderWay_2 : decode cX6_sumUnderWay 2 = .ok (.iconst 0, 1) := by decide +kernel
theorem dX6_sumUnderWay_3 : decode cX6_sumUnderWay 3 = .ok (.istore_n 3, 1) := by decide +kernel
theorem dX6_sumUnderWay_4 : decode cX6_sumUnderWay 4 = .ok (.iload_n 3, 1) := by decide +kernel
theorem dX6_sumUnderWay_5 : decode cX6_sumUnderWay 5 = .ok (.aload_n 0, 1) := by decide +kernel
theorem dX6_sumUnderWay_6 : decode cX6_sumUnderWay 6 = .ok (.getfield 229, 3) := by decide +kernel
theorem dX6_sumUnderWay_9 : decode cX6_sumUnderWay 9 = .ok (.if_icmp .ge 46, 3) := by decide +kernel
theorem dX6_sumUnderWay_12 : decode cX6_sumUnderWay 12 = .ok (.aload_n 0, 1) := by decide +kernel
theorem dX6_sumUnderWay_13 : decode cX6_sumUnderWay 13 = .ok (.iload_n 3, 1) := by decide +kernel
theorem dX6_sumUnderWay_14 : decode cX6_sumUnderWay 14 = .ok (.invokevirtual 85, 3) := by decide +kernel
theorem dX6_sumUnderWay_17 : decode cX6_sumUnderWay 17 = .ok (.astore 4, 2) := by decide +kernel
theorem dX6_sumUnderWay_19 : decode cX6_sumUnderWay 19 = .ok (.aload 4, 2) := by decide +kernel
theorem dX6_sumUnderWay_21 : decode cX6_sumUnderWay 21 = .ok (.ifnull 28, 3) := by decide +kernel
theorem dX6_sumUnderWay_24 : decode cX6_sumUnderWay 24 = .ok (.aload 4, 2) := by decide +kernel
theorem dX6_sumUnderWay_26 : decode cX6_sumUnderWay 26 = .ok (.getfield 114, 3) := by decide +kernel
theorem dX6_sumUnderWay_29 : decode cX6_sumUnderWay 29 = .ok (.ifnull 20, 3) := by decide +kernel
theorem dX6_sumUnderWay_32 : decode cX6_sumUnderWay 32 = .ok (.aload 4, 2) := by decide +kernel
theorem dX6_sumUnderWay_34 : decode cX6_sumUnderWay 34 = .ok (.getfield 213, 3) := by decide +kernel
theorem dX6_sumUnderWay_37 : decode cX6_sumUnderWay 37 = .ok (.ifCond .ne 12, 3) := by decide +kernel
theorem dX6_sumUnderWay_40 : decode cX6_sumUnderWay 40 = .ok (.lload_n 1, 1) := by decide +kernel
theorem dX6_sumUnderWay_41 : decode cX6_sumUnderWay 41 = .ok (.aload 4, 2) := by decide +kernel
theorem dX6_sumUnderWay_43 : decode cX6_sumUnderWay 43 = .ok (.getfield 261, 3) := by decide +kernel
theorem dX6_sumUnderWay_46 : decode cX6_sumUnderWay 46 = .ok (.i2l, 1) := by decide +kernel
theorem dX6_sumUnderWay_47 : decode cX6_sumUnderWay 47 = .ok (.ladd, 1) := by decide +kernel
theorem dX6_sumUnderWay_48 : decode cX6_sumUnderWay 48 = .ok (.lstore_n 1, 1) := by decide +kernel
theorem dX6_sumUnderWay_49 : decode cX6_sumUnderWay 49 = .ok (.iinc 3 1, 3) := by decide +kernel
theorem dX6_sumUnderWay_52 : decode cX6_sumUnderWay 52 = .ok (.goto (-48), 3) := by decide +kernel
theorem dX6_sumUnderWay_55 : decode cX6_sumUnderWay 55 = .ok (.lload_n 1, 1) := by decide +kernel
theorem dX6_sumUnderWay_56 : decode cX6_sumUnderWay 56 = .ok (.lreturn, 1) := by decide +kernel
theorem dX6_sumOfAdds_0 : decode cX6_sumOfAdds 0 = .ok (.lconst 0, 1) := by decide +kernel
theorem dX6_sumOfAdds_1 : decode cX6_sumOfAdds 1 = .ok (.lstore_n 1, 1) := by decide +kernel
theorem dX6_sumOfAdds_2 : decode cX6_sumOfAdds 2 = .ok (.iconst 0, 1) := by decide +kernel
theorem dX6_sumOfAdds_3 : decode cX6_sumOfAdds 3 = .ok (.istore_n 3, 1) := by decide +kernel
theorem dX6_sumOfAdds_4 : decode cX6_sumOfAdds 4 = .ok (.iload_n 3, 1) := by decide +kernel
theorem dX6_sumOfAdds_5 : decode cX6_sumOfAdds 5 = .ok (.aload_n 0, 1) := by decide +kernel
theorem dX6_sumOfAdds_6 : decode cX6_sumOfAdds 6 = .ok (.getfield 229, 3) := by decide +kernel
theorem dX6_sumOfAdds_9 : decode cX6_sumOfAdds 9 = .ok (.if_icmp .ge 57, 3) := by decide +kernel
theorem dX6_sumOfAdds_12 : decode cX6_sumOfAdds 12 = .ok (.aload_n 0, 1) := by decide +kernel
theorem dX6_sumOfAdds_13 : decode cX6_sumOfAdds 13 = .ok (.iload_n 3, 1) := by decide +kernel
theorem dX6_sumOfAdds_14 : decode cX6_sumOfAdds 14 = .ok (.invokevirtual 85, 3) := by decide +kernel
theorem dX6_sumOfAdds_17 : decode cX6_sumOfAdds 17 = .ok (.astore 4, 2) := by decide +kernel
theorem dX6_sumOfAdds_19 : decode cX6_sumOfAdds 19 = .ok (.aload 4, 2) := by decide +kernel
theorem dX6_sumOfAdds_21 : decode cX6_sumOfAdds 21 = .ok (.ifnull 39, 3) := by decide +kernel
theorem dX6_sumOfAdds_24 : decode cX6_sumOfAdds 24 = .ok (.aload 4, 2) := by decide +kernel
theorem dX6_sumOfAdds_26 : decode cX6_sumOfAdds 26 = .ok (.getfield 111, 3) := by decide +kernel
theorem dX6_sumOfAdds_29 : decode cX6_sumOfAdds 29 = .ok (.iconst 1, 1) := by decide +kernel
theorem dX6_sumOfAdds_30 : decode cX6_sumOfAdds 30 = .ok (.if_icmp .ne 30, 3) := by decide +kernel
theorem dX6_sumOfAdds_33 : decode cX6_sumOfAdds 33 = .ok (.aload 4, 2) := by decide +kernel
theorem dX6_sumOfAdds_35 : decode cX6_sumOfAdds 35 = .ok (.getfield 89, 3) := by decide +kernel
theorem dX6_sumOfAdds_38 : decode cX6_sumOfAdds 38 = .ok (.bipush 6, 2) := by decide +kernel
theorem dX6_sumOfAdds_40 : decode cX6_sumOfAdds 40 = .ok (.if_icmp .ge 20, 3) := by decide +kernel
theorem dX6_sumOfAdds_43 : decode cX6_sumOfAdds 43 = .ok (.aload 4, 2) := by decide +kernel
theorem dX6_sumOfAdds_45 : decode cX6_sumOfAdds 45 = .ok (.getfield 213, 3) := by decide +kernel
theorem dX6_sumOfAdds_48 : decode cX6_sumOfAdds 48 = .ok (.ifCond .eq 12, 3) := by decide +kernel
theorem dX6_sumOfAdds_51 : decode cX6_sumOfAdds 51 = .ok (.lload_n 1, 1) := by decide +kernel
theorem dX6_sumOfAdds_52 : decode cX6_sumOfAdds 52 = .ok (.aload 4, 2) := by decide +kernel
theorem dX6_sumOfAdds_54 : decode cX6_sumOfAdds 54 = .ok (.getfield 261, 3) := by decide +kernel
theorem dX6_sumOfAdds_57 : decode cX6_sumOfAdds 57 = .ok (.i2l, 1) := by decide +kernel
theorem dX6_sumOfAdds_58 : decode cX6_sumOfAdds 58 = .ok (.ladd, 1) := by decide +kernel
theorem dX6_sumOfAdds_59 : decode cX6_sumOfAdds 59 = .ok (.lstore_n 1, 1) := by decide +kernel
theorem dX6_sumOfAdds_60 : decode cX6_sumOfAdds 60 = .ok (.iinc 3 1, 3) := by decide +kernel
theorem dX6_sumOfAdds_63 : decode cX6_sumOfAdds 63 = .ok (.goto (-59), 3) := by decide +kernel
theorem dX6_sumOfAdds_66 : decode cX6_sumOfAdds 66 = .ok (.lload_n 1, 1) := by decide +kernel
theorem dX6_sumOfAdds_67 : decode cX6_sumOfAdds 67 = .ok (.lreturn, 1) := by decide +kernel
theorem dX6_openAsks_0 : decode cX6_openAsks 0 = .ok (.iconst 0, 1) := by decide +kernel
theorem dX6_openAsks_1 : decode cX6_openAsks 1 = .ok (.istore_n 1, 1) := by decide +kernel
theorem dX6_openAsks_2 : decode cX6_openAsks 2 = .ok (.iconst 0, 1) := by decide +kernel
theorem dX6_openAsks_3 : decode cX6_openAsks 3 = .ok (.istore_n 2, 1) := by decide +kernel
theorem dX6_openAsks_4 : decode cX6_openAsks 4 = .ok (.iload_n 2, 1) := by decide +kernel
theorem dX6_openAsks_5 : decode cX6_openAsks 5 = .ok (.aload_n 0, 1) := by decide +kernel
theorem dX6_openAsks_6 : decode cX6_openAsks 6 = .ok (.getfield 229, 3) := by decide +kernel
theorem dX6_openAsks_9 : decode cX6_openAsks 9 = .ok (.if_icmp .ge 29, 3) := by decide +kernel
theorem dX6_openAsks_12 : decode cX6_openAsks 12 = .ok (.aload_n 0, 1) := by decide +kernel
theorem dX6_openAsks_13 : decode cX6_openAsks 13 = .ok (.iload_n 2, 1) := by decide +kernel
theorem dX6_openAsks_14 : decode cX6_openAsks 14 = .ok (.invokevirtual 85, 3) := by decide +kernel
theorem dX6_openAsks_17 : decode cX6_openAsks 17 = .ok (.astore_n 3, 1) := by decide +kernel
theorem dX6_openAsks_18 : decode cX6_openAsks 18 = .ok (.aload_n 3, 1) := by decide +kernel
theorem dX6_openAsks_19 : decode cX6_openAsks 19 = .ok (.ifnull 13, 3) := by decide +kernel
theorem dX6_openAsks_22 : decode cX6_openAsks 22 = .ok (.aload_n 3, 1) := by decide +kernel
theorem dX6_openAsks_23 : decode cX6_openAsks 23 = .ok (.getfield 92, 3) := by decide +kernel
theorem dX6_openAsks_26 : decode cX6_openAsks 26 = .ok (.ifCond .ne 6, 3) := by decide +kernel
theorem dX6_openAsks_29 : decode cX6_openAsks 29 = .ok (.iinc 1 1, 3) := by decide +kernel
theorem dX6_openAsks_32 : decode cX6_openAsks 32 = .ok (.iinc 2 1, 3) := by decide +kernel
theorem dX6_openAsks_35 : decode cX6_openAsks 35 = .ok (.goto (-31), 3) := by decide +kernel
theorem dX6_openAsks_38 : decode cX6_openAsks 38 = .ok (.iload_n 1, 1) := by decide +kernel
theorem dX6_openAsks_39 : decode cX6_openAsks 39 = .ok (.ireturn, 1) := by decide +kernel
theorem dX6_allRecords_0 : decode cX6_allRecords 0 = .ok (.iconst 0, 1) := by decide +kernel
theorem dX6_allRecords_1 : decode cX6_allRecords 1 = .ok (.istore_n 1, 1) := by decide +kernel
theorem dX6_allRecords_2 : decode cX6_allRecords 2 = .ok (.iconst 0, 1) := by decide +kernel
theorem dX6_allRecords_3 : decode cX6_allRecords 3 = .ok (.istore_n 2, 1) := by decide +kernel
theorem dX6_allRecords_4 : decode cX6_allRecords 4 = .ok (.iload_n 2, 1) := by decide +kernel
theorem dX6_allRecords_5 : decode cX6_allRecords 5 = .ok (.iconst 4, 1) := by decide +kernel
theorem dX6_allRecords_6 : decode cX6_allRecords 6 = .ok (.if_icmp .ge 33, 3) := by decide +kernel
theorem dX6_allRecords_9 : decode cX6_allRecords 9 = .ok (.iconst 0, 1) := by decide +kernel
theorem dX6_allRecords_10 : decode cX6_allRecords 10 = .ok (.istore_n 3, 1) := by decide +kernel
theorem dX6_allRecords_11 : decode cX6_allRecords 11 = .ok (.iload_n 3, 1) := by decide +kernel
theorem dX6_allRecords_12 : decode cX6_allRecords 12 = .ok (.bipush 10, 2) := by decide +kernel
theorem dX6_allRecords_14 : decode cX6_allRecords 14 = .ok (.if_icmp .ge 19, 3) := by decide +kernel
theorem dX6_allRecords_17 : decode cX6_allRecords 17 = .ok (.iload_n 1, 1) := by decide +kernel
theorem dX6_allRecords_18 : decode cX6_allRecords 18 = .ok (.aload_n 0, 1) := by decide +kernel
theorem dX6_allRecords_19 : decode cX6_allRecords 19 = .ok (.iload_n 2, 1) := by decide +kernel
theorem dX6_allRecords_20 : decode cX6_allRecords 20 = .ok (.iload_n 3, 1) := by decide +kernel
theorem dX6_allRecords_21 : decode cX6_allRecords 21 = .ok (.iconst 2, 1) := by decide +kernel
theorem dX6_allRecords_22 : decode cX6_allRecords 22 = .ok (.invokevirtual 356, 3) := by decide +kernel
theorem dX6_allRecords_25 : decode cX6_allRecords 25 = .ok (.iadd, 1) := by decide +kernel
theorem dX6_allRecords_26 : decode cX6_allRecords 26 = .ok (.istore_n 1, 1) := by decide +kernel
theorem dX6_allRecords_27 : decode cX6_allRecords 27 = .ok (.iinc 3 1, 3) := by decide +kernel
theorem dX6_allRecords_30 : decode cX6_allRecords 30 = .ok (.goto (-19), 3) := by decide +kernel
theorem dX6_allRecords_33 : decode cX6_allRecords 33 = .ok (.iinc 2 1, 3) := by decide +kernel
theorem dX6_allRecords_36 : decode cX6_allRecords 36 = .ok (.goto (-32), 3) := by decide +kernel
theorem dX6_allRecords_39 : decode cX6_allRecords 39 = .ok (.iload_n 1, 1) := by decide +kernel
theorem dX6_allRecords_40 : decode cX6_allRecords 40 = .ok (.ireturn, 1) := by decide +kernel
theorem dJ9_max_7cf53_0 : decode cJ9_max_7cf53 0 = .ok (.iload_n 0, 1) := by decide +kernel
theorem dJ9_max_7cf53_1 : decode cJ9_max_7cf53 1 = .ok (.iload_n 1, 1) := by decide +kernel
theorem dJ9_max_7cf53_2 : decode cJ9_max_7cf53 2 = .ok (.if_icmp .lt 7, 3) := by decide +kernel
theorem dJ9_max_7cf53_5 : decode cJ9_max_7cf53 5 = .ok (.iload_n 0, 1) := by decide +kernel
theorem dJ9_max_7cf53_6 : decode cJ9_max_7cf53 6 = .ok (.goto 4, 3) := by decide +kernel
theorem dJ9_max_7cf53_9 : decode cJ9_max_7cf53 9 = .ok (.iload_n 1, 1) := by decide +kernel
theorem dJ9_max_7cf53_10 : decode cJ9_max_7cf53 10 = .ok (.ireturn, 1) := by decide +kernel
theorem dJ9_min_7cf53_0 : decode cJ9_min_7cf53 0 = .ok (.iload_n 0, 1) := by decide +kernel
theorem dJ9_min_7cf53_1 : decode cJ9_min_7cf53 1 = .ok (.iload_n 1, 1) := by decide +kernel
theorem dJ9_min_7cf53_2 : decode cJ9_min_7cf53 2 = .ok (.if_icmp .gt 7, 3) := by decide +kernel
theorem dJ9_min_7cf53_5 : decode cJ9_min_7cf53 5 = .ok (.iload_n 0, 1) := by decide +kernel
theorem dJ9_min_7cf53_6 : decode cJ9_min_7cf53 6 = .ok (.goto 4, 3) := by decide +kernel
theorem dJ9_min_7cf53_9 : decode cJ9_min_7cf53 9 = .ok (.iload_n 1, 1) := by decide +kernel
theorem dJ9_min_7cf53_10 : decode cJ9_min_7cf53 10 = .ok (.ireturn, 1) := by decide +kernel
