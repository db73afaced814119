theorem dX10_put_0 : decode cX10_put 0 = .ok (.iload_n 1, 1) := by decide +kernel
theorem dX10_put_1 : decode cX10_put 1 = .ok (.ifCond .lt 13, 3) := by decide +kernel
theorem dX10_put_4 : decode cX10_put 4 = .ok (.iload_n 1, 1) := by decide +kernel
theorem dX10_put_5 : decode cX10_put 5 = .ok (.aload_n 0, 1) := by decide +kernel
theorem dX10_put_6 : decode cX10_put 6 = .ok (.arraylength, 1) := by decide +kernel
theorem dX10_put_7 : decode cX10_put 7 = .ok (.if_icmp .ge 7, 3) := by decide +kernel
theorem dX10_put_10 : decode cX10_put 10 = .ok (.aload_n 0, 1) := by decide +kernel
theorem dX10_put_11 : decode cX10_put 11 = .ok (.iload_n 1, 1) := by decide +kernel
theorem dX10_put_12 : decode cX10_put 12 = .ok (.iload_n 2, 1) := by decide +kernel
theorem dX10_put_13 : decode cX10_put 13 = .ok (.iastore, 1) := by decide +kernel
theorem dX10_put_14 : decode cX10_put 14 = .ok (.return_, 1) := by decide +kernel
theorem dX6_take_0 : decode cX6_take 0 = .ok (.iload_n 1, 1) := by decide +kernel
theorem dX6_take_1 : decode cX6_take 1 = .ok (.iconst 1, 1) := by decide +kernel
theorem dX6_take_2 : decode cX6_take 2 = .ok (.isub, 1) := by decide +kernel
theorem dX6_take_3 : decode cX6_take 3 = .ok (.istore 4, 2) := by decide +kernel
theorem dX6_take_5 : decode cX6_take 5 = .ok (.iload 4, 2) := by decide +kernel
theorem dX6_take_7 : decode cX6_take 7 = .ok (.ifCond .lt 42, 3) := by decide +kernel
theorem dX6_take_10 : decode cX6_take 10 = .ok (.aload_n 0, 1) := by decide +kernel
theorem dX6_take_11 : decode cX6_take 11 = .ok (.getfield 22, 3) := by decide +kernel
theorem dX6_take_14 : decode cX6_take 14 = .ok (.aload_n 0, 1) := by decide +kernel
theorem dX6_take_15 : decode cX6_take 15 = .ok (.getfield 26, 3) := by decide +kernel
theorem dX6_take_18 : decode cX6_take 18 = .ok (.lload_n 2, 1) := by decide +kernel
theorem dX6_take_19 : decode cX6_take 19 = .ok (.bipush 8, 2) := by decide +kernel
theorem dX6_take_21 : decode cX6_take 21 = .ok (.iload 4, 2) := by decide +kernel
theorem dX6_take_23 : decode cX6_take 23 = .ok (.imul, 1) := by decide +kernel
theorem dX6_take_24 : decode cX6_take 24 = .ok (.lshr, 1) := by decide +kernel
theorem dX6_take_25 : decode cX6_take 25 = .ok (.ldc2_w 29, 3) := by decide +kernel
theorem dX6_take_28 : decode cX6_take 28 = .ok (.land, 1) := by decide +kernel
theorem dX6_take_29 : decode cX6_take 29 = .ok (.l2i, 1) := by decide +kernel
theorem dX6_take_30 : decode cX6_take 30 = .ok (.invokestatic 31, 3) := by decide +kernel
theorem dX6_take_33 : decode cX6_take 33 = .ok (.aload_n 0, 1) := by decide +kernel
theorem dX6_take_34 : decode cX6_take 34 = .ok (.dup, 1) := by decide +kernel
theorem dX6_take_35 : decode cX6_take 35 = .ok (.getfield 26, 3) := by decide +kernel
theorem dX6_take_38 : decode cX6_take 38 = .ok (.iconst 1, 1) := by decide +kernel
theorem dX6_take_39 : decode cX6_take 39 = .ok (.iadd, 1) := by decide +kernel
theorem dX6_take_40 : decode cX6_take 40 = .ok (.putfield 26, 3) := by decide +kernel
theorem dX6_take_43 : decode cX6_take 43 = .ok (.iinc 4 (-1), 3) := by decide +kernel
theorem dX6_take_46 : decode cX6_take 46 = .ok (.goto (-41), 3) := by decide +kernel
theorem dX6_take_49 : decode cX6_take 49 = .ok (.return_, 1) := by decide +kernel
theorem dX10_feed_0 : decode cX10_feed 0 = .ok (.iload_n 1, 1) := by decide +kernel
theorem dX10_feed_1 : decode cX10_feed 1 = .ok (.iconst 1, 1) := by decide +kernel
theorem dX10_feed_2 : decode cX10_feed 2 = .ok (.if_icmp .lt 9, 3) := by decide +kernel
theorem dX10_feed_5 : decode cX10_feed 5 = .ok (.iload_n 1, 1) := by decide +kernel
theorem dX10_feed_6 : decode cX10_feed 6 = .ok (.bipush 8, 2) := by decide +kernel
theorem dX10_feed_8 : decode cX10_feed 8 = .ok (.if_icmp .le 6, 3) := by decide +kernel
theorem dX10_feed_11 : decode cX10_feed 11 = .ok (.ldc 96, 2) := by decide +kernel
theorem dX10_feed_13 : decode cX10_feed 13 = .ok (.ireturn, 1) := by decide +kernel
theorem dX10_feed_14 : decode cX10_feed 14 = .ok (.aload_n 0, 1) := by decide +kernel
theorem dX10_feed_15 : decode cX10_feed 15 = .ok (.getfield 19, 3) := by decide +kernel
theorem dX10_feed_18 : decode cX10_feed 18 = .ok (.getfield 97, 3) := by decide +kernel
theorem dX10_feed_21 : decode cX10_feed 21 = .ok (.iload_n 1, 1) := by decide +kernel
theorem dX10_feed_22 : decode cX10_feed 22 = .ok (.iadd, 1) := by decide +kernel
theorem dX10_feed_23 : decode cX10_feed 23 = .ok (.sipush 400, 3) := by decide +kernel
theorem dX10_feed_26 : decode cX10_feed 26 = .ok (.if_icmp .le 6, 3) := by decide +kernel
theorem dX10_feed_29 : decode cX10_feed 29 = .ok (.ldc 100, 2) := by decide +kernel
theorem dX10_feed_31 : decode cX10_feed 31 = .ok (.ireturn, 1) := by decide +kernel
theorem dX10_feed_32 : decode cX10_feed 32 = .ok (.aload_n 0, 1) := by decide +kernel
theorem dX10_feed_33 : decode cX10_feed 33 = .ok (.getfield 19, 3) := by decide +kernel
theorem dX10_feed_36 : decode cX10_feed 36 = .ok (.iload_n 1, 1) := by decide +kernel
theorem dX10_feed_37 : decode cX10_feed 37 = .ok (.lload_n 2, 1) := by decide +kernel
theorem dX10_feed_38 : decode cX10_feed 38 = .ok (.invokevirtual 101, 3) := by decide +kernel
theorem dX10_feed_41 : decode cX10_feed 41 = .ok (.aload_n 0, 1) := by decide +kernel
theorem dX10_feed_42 : decode cX10_feed 42 = .ok (.getfield 19, 3) := by decide +kernel
theorem dX10_feed_45 : decode cX10_feed 45 = .ok (.getfield 97, 3) := by decide +kernel
theorem dX10_feed_48 : decode cX10_feed 48 = .ok (.ireturn, 1) := by decide +kernel
theorem dX10_fillRow_0 : decode cX10_fillRow 0 = .ok (.iconst 0, 1) := by decide +kernel
theorem dX10_fillRow_1 : decode cX10_fillRow 1 = .ok (.istore_n 2, 1) := by decide +kernel
theorem dX10_fillRow_2 : decode cX10_fillRow 2 = .ok (.iload_n 2, 1) := by decide +kernel
theorem dX10_fillRow_3 : decode cX10_fillRow 3 = .ok (.aload_n 0, 1) := by decide +kernel
theorem dX10_fillRow_4 : decode cX10_fillRow 4 = .ok (.arraylength, 1) := by decide +kernel
theorem dX10_fillRow_5 : decode cX10_fillRow 5 = .ok (.if_icmp .ge 13, 3) := by decide +kernel
theorem dX10_fillRow_8 : decode cX10_fillRow 8 = .ok (.aload_n 0, 1) := by decide +kernel
theorem dX10_fillRow_9 : decode cX10_fillRow 9 = .ok (.iload_n 2, 1) := by decide +kernel
theorem dX10_fillRow_10 : decode cX10_fillRow 10 = .ok (.iload_n 1, 1) := by decide +kernel
theorem dX10_fillRow_11 : decode cX10_fillRow 11 = .ok (.iastore, 1) := by decide +kernel
theorem dX10_fillRow_12 : decode cX10_fillRow 12 = .ok (.iinc 2 1, 3) := by decide +kernel
theorem dX10_fillRow_15 : decode cX10_fillRow 15 = .ok (.goto (-13), 3) := by decide +kernel
theorem dX10_fillRow_18 : decode cX10_fillRow 18 = .ok (.return_, 1) := by decide +kernel
theorem dX4_wipe_0 : decode cX4_wipe 0 = .ok (.aload_n 0, 1) := by decide +kernel
theorem dX4_wipe_1 : decode cX4_wipe 1 = .ok (.iconst 0, 1) := by decide +kernel
theorem dX4_wipe_2 : decode cX4_wipe 2 = .ok (.putfield 27, 3) := by decide +kernel
theorem dX4_wipe_5 : decode cX4_wipe 5 = .ok (.aload_n 0, 1) := by decide +kernel
theorem dX4_wipe_6 : decode cX4_wipe 6 = .ok (.getfield 9, 3) := by decide +kernel
theorem dX4_wipe_9 : decode cX4_wipe 9 = .ok (.iconst 0, 1) := by decide +kernel
theorem dX4_wipe_10 : decode cX4_wipe 10 = .ok (.invokestatic 31, 3) := by decide +kernel
theorem dX4_wipe_13 : decode cX4_wipe 13 = .ok (.aload_n 0, 1) := by decide +kernel
theorem dX4_wipe_14 : decode cX4_wipe 14 = .ok (.getfield 15, 3) := by decide +kernel
theorem dX4_wipe_17 : decode cX4_wipe 17 = .ok (.iconst (-1), 1) := by decide +kernel
theorem dX4_wipe_18 : decode cX4_wipe 18 = .ok (.invokestatic 31, 3) := by decide +kernel
theorem dX4_wipe_21 : decode cX4_wipe 21 = .ok (.aload_n 0, 1) := by decide +kernel
theorem dX4_wipe_22 : decode cX4_wipe 22 = .ok (.getfield 18, 3) := by decide +kernel
theorem dX4_wipe_25 : decode cX4_wipe 25 = .ok (.iconst (-1), 1) := by decide +kernel
theorem dX4_wipe_26 : decode cX4_wipe 26 = .ok (.invokestatic 31, 3) := by decide +kernel
theorem dX4_wipe_29 : decode cX4_wipe 29 = .ok (.aload_n 0, 1) := by decide +kernel
theorem dX4_wipe_30 : decode cX4_wipe 30 = .ok (.getfield 21, 3) := by decide +kernel
theorem dX4_wipe_33 : decode cX4_wipe 33 = .ok (.iconst 0, 1) := by decide +kernel
theorem dX4_wipe_34 : decode cX4_wipe 34 = .ok (.invokestatic 31, 3) := by decide +kernel
theorem dX4_wipe_37 : decode cX4_wipe 37 = .ok (.return_, 1) := by decide +kernel
theorem dX10_at_0 : decode cX10_at 0 = .ok (.iload_n 1, 1) := by decide +kernel
theorem dX10_at_1 : decode cX10_at 1 = .ok (.ifCond .lt 15, 3) := by decide +kernel
theorem dX10_at_4 : decode cX10_at 4 = .ok (.iload_n 1, 1) := by decide +kernel
theorem dX10_at_5 : decode cX10_at 5 = .ok (.aload_n 0, 1) := by decide +kernel
theorem dX10_at_6 : decode cX10_at 6 = .ok (.arraylength, 1) := by decide +kernel
theorem dX10_at_7 : decode cX10_at 7 = .ok (.if_icmp .ge 9, 3) := by decide +kernel
theorem dX10_at_10 : decode cX10_at 10 = .ok (.aload_n 0, 1) := by decide +kernel
theorem dX10_at_11 : decode cX10_at 11 = .ok (.iload_n 1, 1) := by decide +kernel
theorem dX10_at_12 : decode cX10_at 12 = .ok (.iaload, 1) := by decide +kernel
theorem dX10_at_13 : decode cX10_at 13 = .ok (.goto 4, 3) := by decide +kernel
theorem dX10_at_16 : decode cX10_at 16 = .ok (.iconst (-1), 1) := by decide +kernel
theorem dX10_at_17 : decode cX10_at 17 = .ok (.ireturn, 1) := by decide +kernel
theorem dX6_skipBlanks_0 : decode cX6_skipBlanks 0 = .ok (.aload_n 0, 1) := by decide +kernel
theorem dX6_skipBlanks_1 : decode cX6_skipBlanks 1 = .ok (.getfield 41, 3) := by decide +kernel
theorem dX6_skipBlanks_4 : decode cX6_skipBlanks 4 = .ok (.aload_n 0, 1) := by decide +kernel
theorem dX6_skipBlanks_5 : decode cX6_skipBlanks 5 = .ok (.getfield 26, 3) := by decide +kernel
theorem dX6_skipBlanks_8 : decode cX6_skipBlanks 8 = .ok (.if_icmp .ge 32, 3) := by decide +kernel
theorem dX6_skipBlanks_11 : decode cX6_skipBlanks 11 = .ok (.aload_n 0, 1) := by decide +kernel
theorem dX6_skipBlanks_12 : decode cX6_skipBlanks 12 = .ok (.getfield 22, 3) := by decide +kernel
theorem dX6_skipBlanks_15 : decode cX6_skipBlanks 15 = .ok (.aload_n 0, 1) := by decide +kernel
theorem dX6_skipBlanks_16 : decode cX6_skipBlanks 16 = .ok (.getfield 41, 3) := by decide +kernel
theorem dX6_skipBlanks_19 : decode cX6_skipBlanks 19 = .ok (.invokestatic 54, 3) := by decide +kernel
theorem dX6_skipBlanks_22 : decode cX6_skipBlanks 22 = .ok (.bipush 32, 2) := by decide +kernel
theorem dX6_skipBlanks_24 : decode cX6_skipBlanks 24 = .ok (.if_icmp .ne 16, 3) := by decide +kernel
theorem dX6_skipBlanks_27 : decode cX6_skipBlanks 27 = .ok (.aload_n 0, 1) := by decide +kernel
theorem dX6_skipBlanks_28 : decode cX6_skipBlanks 28 = .ok (.dup, 1) := by decide +kernel
theorem dX6_skipBlanks_29 : decode cX6_skipBlanks 29 = .ok (.getfield 41, 3) := by decide +kernel
theorem dX6_skipBlanks_32 : decode cX6_skipBlanks 32 = .ok (.iconst 1, 1) := by decide +kernel
theorem dX6_skipBlanks_33 : decode cX6_skipBlanks 33 = .ok (.iadd, 1) := by decide +kernel
theorem dX6_skipBlanks_34 : decode cX6_skipBlanks 34 = .ok (.putfield 41, 3) := by decide +kernel
theorem dX6_skipBlanks_37 : decode cX6_skipBlanks 37 = .ok (.goto (-37), 3) := by decide +kernel
theorem dX6_skipBlanks_40 : decode cX6_skipBlanks 40 = .ok (.return_, 1) := by decide +kernel
theorem dX6_isWord_0 : decode cX6_isWord 0 = .ok (.aload_n 0, 1) := by decide +kernel
theorem dX6_isWord_1 : decode cX6_isWord 1 = .ok (.getfield 41, 3) := by decide +kernel
theorem dX6_isWord_4 : decode cX6_isWord 4 = .ok (.aload_n 0, 1) := by decide +kernel
theorem dX6_isWord_5 : decode cX6_isWord 5 = .ok (.getfield 65, 3) := by decide +kernel
theorem dX6_isWord_8 : decode cX6_isWord 8 = .ok (.isub, 1) := by decide +kernel
theorem dX6_isWord_9 : decode cX6_isWord 9 = .ok (.aload_n 1, 1) := by decide +kernel
theorem dX6_isWord_10 : decode cX6_isWord 10 = .ok (.invokevirtual 102, 3) := by decide +kernel
theorem dX6_isWord_13 : decode cX6_isWord 13 = .ok (.if_icmp .eq 5, 3) := by decide +kernel
theorem dX6_isWord_16 : decode cX6_isWord 16 = .ok (.iconst 0, 1) := by decide +kernel
theorem dX6_isWord_17 : decode cX6_isWord 17 = .ok (.ireturn, 1) := by decide +kernel
theorem dX6_isWord_18 : decode cX6_isWord 18 = .ok (.iconst 0, 1) := by decide +kernel
theorem dX6_isWord_19 : decode cX6_isWord 19 = .ok (.istore_n 2, 1) := by decide +kernel
theorem dX6_isWord_20 : decode cX6_isWord 20 = .ok (.iload_n 2, 1) := by decide +kernel
theorem dX6_isWord_21 : decode cX6_isWord 21 = .ok (.aload_n 1, 1) := by decide +kernel
theorem dX6_isWord_22 : decode cX6_isWord 22 = .ok (.invokevirtual 102, 3) := by decide +kernel
theorem dX6_isWord_25 : decode cX6_isWord 25 = .ok (.if_icmp .ge 32, 3) := by decide +kernel
theorem dX6_isWord_28 : decode cX6_isWord 28 = .ok (.aload_n 0, 1) := by decide +kernel
theorem dX6_isWord_29 : decode cX6_isWord 29 = .ok (.getfield 22, 3) := by decide +kernel
theorem dX6_isWord_32 : decode cX6_isWord 32 = .ok (.aload_n 0, 1) := by decide +kernel
theorem dX6_isWord_33 : decode cX6_isWord 33 = .ok (.getfield 65, 3) := by decide +kernel
theorem dX6_isWord_36 : decode cX6_isWord 36 = .ok (.iload_n 2, 1) := by decide +kernel
theorem dX6_isWord_37 : decode cX6_isWord 37 = .ok (.iadd, 1) := by decide +kernel
theorem dX6_isWord_38 : decode cX6_isWord 38 = .ok (.invokestatic 54, 3) := by decide +kernel
theorem dX6_isWord_41 : decode cX6_isWord 41 = .ok (.aload_n 1, 1) := by decide +kernel
theorem dX6_isWord_42 : decode cX6_isWord 42 = .ok (.iload_n 2, 1) := by decide +kernel
theorem dX6_isWord_43 : decode cX6_isWord 43 = .ok (.invokevirtual 106, 3) := by decide +kernel
theorem dX6_isWord_46 : decode cX6_isWord 46 = .ok (.if_icmp .eq 5, 3) := by decide +kernel
theorem dX6_isWord_49 : decode cX6_isWord 49 = .ok (.iconst 0, 1) := by decide +kernel
theorem dX6_isWord_50 : decode cX6_isWord 50 = .ok (.ireturn, 1) := by decide +kernel
theorem dX6_isWord_51 : decode cX6_isWord 51 = .ok (.iinc 2 1, 3) := by decide +kernel
theorem dX6_isWord_54 : decode cX6_isWord 54 = .ok (.goto (-34), 3) := by decide +kernel
theorem dX6_isWord_57 : decode cX6_isWord 57 = .ok (.iconst 1, 1) := by decide +kernel
theorem dX6_isWord_58 : decode cX6_isWord 58 = .ok (.ireturn, 1) := by decide +kernel
theorem dX6_isLetter_0 : decode cX6_isLetter 0 = .ok (.iload_n 0, 1) := by decide +kernel
theorem dX6_isLetter_1 : decode cX6_isLetter 1 = .ok (.bipush 97, 2) := by decide +kernel
theorem dX6_isLetter_3 : decode cX6_isLetter 3 = .ok (.if_icmp .lt 13, 3) := by decide +kernel
theorem dX6_isLetter_6 : decode cX6_isLetter 6 = .ok (.iload_n 0, 1) := by decide +kernel
theorem dX6_isLetter_7 : decode cX6_isLetter 7 = .ok (.bipush 122, 2) := by decide +kernel
theorem dX6_isLetter_9 : decode cX6_isLetter 9 = .ok (.if_icmp .gt 7, 3) := by decide +kernel
theorem dX6_isLetter_12 : decode cX6_isLetter 12 = .ok (.iconst 1, 1) := by decide +kernel
theorem dX6_isLetter_13 : decode cX6_isLetter 13 = .ok (.goto 4, 3) := by decide +kernel
theorem dX6_isLetter_16 : decode cX6_isLetter 16 = .ok (.iconst 0, 1) := by decide +kernel
theorem dX6_isLetter_17 : decode cX6_isLetter 17 = .ok (.ireturn, 1) := by decide +kernel
theorem dX6_readWord_0 : decode cX6_readWord 0 = .ok (.aload_n 0, 1) := by decide +kernel
theorem dX6_readWord_1 : decode cX6_readWord 1 = .ok (.aload_n 0, 1) := by decide +kernel
theorem dX6_readWord_2 : decode cX6_readWord 2 = .ok (.getfield 41, 3) := by decide +kernel
theorem dX6_readWord_5 : decode cX6_readWord 5 = .ok (.putfield 65, 3) := by decide +kernel
theorem dX6_readWord_8 : decode cX6_readWord 8 = .ok (.aload_n 0, 1) := by decide +kernel
theorem dX6_readWord_9 : decode cX6_readWord 9 = .ok (.getfield 41, 3) := by decide +kernel
theorem dX6_readWord_12 : decode cX6_readWord 12 = .ok (.aload_n 0, 1) := by decide +kernel
theorem dX6_readWord_13 : decode cX6_readWord 13 = .ok (.getfield 26, 3) := by decide +kernel
theorem dX6_readWord_16 : decode cX6_readWord 16 = .ok (.if_icmp .ge 33, 3) := by decide +kernel
theorem dX6_readWord_19 : decode cX6_readWord 19 = .ok (.aload_n 0, 1) := by decide +kernel
theorem dX6_readWord_20 : decode cX6_readWord 20 = .ok (.getfield 22, 3) := by decide +kernel
theorem dX6_readWord_23 : decode cX6_readWord 23 = .ok (.aload_n 0, 1) := by decide +kernel
theorem dX6_readWord_24 : decode cX6_readWord 24 = .ok (.getfield 41, 3) := by decide +kernel
theorem dX6_readWord_27 : decode cX6_readWord 27 = .ok (.invokestatic 54, 3) := by decide +kernel
theorem dX6_readWord_30 : decode cX6_readWord 30 = .ok (.invokestatic 87, 3) := by decide +kernel
theorem dX6_readWord_33 : decode cX6_readWord 33 = .ok (.ifCond .eq 16, 3) := by decide +kernel
theorem dX6_readWord_36 : decode cX6_readWord 36 = .ok (.aload_n 0, 1) := by decide +kernel
theorem dX6_readWord_37 : decode cX6_readWord 37 = .ok (.dup, 1) := by decide +kernel
theorem dX6_readWord_38 : decode cX6_readWord 38 = .ok (.getfield 41, 3) := by decide +kernel
theorem dX6_readWord_41 : decode cX6_readWord 41 = .ok (.iconst 1, 1) := by decide +kernel
theorem dX6_readWord_42 : decode cX6_readWord 42 = .ok (.iadd, 1) := by decide +kernel
theorem dX6_readWord_43 : decode cX6_readWord 43 = .ok (.putfield 41, 3) := by decide +kernel
theorem dX6_readWord_46 : decode cX6_readWord 46 = .ok (.goto (-38), 3) := by decide +kernel
theorem dX6_readWord_49 : decode cX6_readWord 49 = .ok (.aload_n 0, 1) := by decide +kernel
theorem dX6_readWord_50 : decode cX6_readWord 50 = .ok (.ldc 91, 2) := by decide +kernel
theorem dX6_readWord_52 : decode cX6_readWord 52 = .ok (.invokevirtual 92, 3) := by decide +kernel
theorem dX6_readWord_55 : decode cX6_readWord 55 = .ok (.ifCond .eq 7, 3) := by decide +kernel
theorem dX6_readWord_58 : decode cX6_readWord 58 = .ok (.iconst 1, 1) := by decide +kernel
theorem dX6_readWord_59 : decode cX6_readWord 59 = .ok (.goto 43, 3) := by decide +kernel
theorem dX6_readWord_62 : decode cX6_readWord 62 = .ok (.aload_n 0, 1) := by decide +kernel
theorem dX6_readWord_63 : decode cX6_readWord 63 = .ok (.ldc 96, 2) := by decide +kernel
theorem dX6_readWord_65 : decode cX6_readWord 65 = .ok (.invokevirtual 92, 3) := by decide +kernel
theorem dX6_readWord_68 : decode cX6_readWord 68 = .ok (.ifCond .eq 7, 3) := by decide +kernel
theorem dX6_readWord_71 : decode cX6_readWord 71 = .ok (.iconst 2, 1) := by decide +kernel
theorem dX6_readWord_72 : decode cX6_readWord 72 = .ok (.goto 30, 3) := by decide +kernel
theorem dX6_readWord_75 : decode cX6_readWord 75 = .ok (.aload_n 0, 1) := by decide +kernel
theorem dX6_readWord_76 : decode cX6_readWord 76 = .ok (.ldc 98, 2) := by decide +kernel
theorem dX6_readWord_78 : decode cX6_readWord 78 = .ok (.invokevirtual 92, 3) := by decide +kernel
theorem dX6_readWord_81 : decode cX6_readWord 81 = .ok (.ifCond .eq 7, 3) := by decide +kernel
theorem dX6_readWord_84 : decode cX6_readWord 84 = .ok (.iconst 3, 1) := by decide +kernel
theorem dX6_readWord_85 : decode cX6_readWord 85 = .ok (.goto 17, 3) := by decide +kernel
theorem dX6_readWord_88 : decode cX6_readWord 88 = .ok (.aload_n 0, 1) := by decide +kernel
theorem dX6_readWord_89 : decode cX6_readWord 89 = .ok (.ldc 100, 2) := by decide +kernel
theorem dX6_readWord_91 : decode cX6_readWord 91 = .ok (.invokevirtual 92, 3) := by decide +kernel
theorem dX6_readWord_94 : decode cX6_readWord 94 = .ok (.ifCond .eq 7, 3) := by decide +kernel
theorem dX6_readWord_97 : decode cX6_readWord 97 = .ok (.iconst 4, 1) := by decide +kernel
theorem dX6_readWord_98 : decode cX6_readWord 98 = .ok (.goto 4, 3) := by decide +kernel
theorem dX6_readWord_101 : decode cX6_readWord 101 = .ok (.iconst 0, 1) := by decide +kernel
theorem dX6_readWord_102 : decode cX6_readWord 102 = .ok (.istore_n 1, 1) := by decide +kernel
theorem dX6_readWord_103 : decode cX6_readWord 103 = .ok (.aload_n 0, 1) := by decide +kernel
theorem dX6_readWord_104 : decode cX6_readWord 104 = .ok (.invokevirtual 48, 3) := by decide +kernel
theorem dX6_readWord_107 : decode cX6_readWord 107 = .ok (.iload_n 1, 1) := by decide +kernel
theorem dX6_readWord_108 : decode cX6_readWord 108 = .ok (.ireturn, 1) := by decide +kernel
theorem dX6_blame_0 : decode cX6_blame 0 = .ok (.aload_n 0, 1) := by decide +kernel
theorem dX6_blame_1 : decode cX6_blame 1 = .ok (.getfield 38, 3) := by decide +kernel
theorem dX6_blame_4 : decode cX6_blame 4 = .ok (.ifCond .ne 13, 3) := by decide +kernel
theorem dX6_blame_7 : decode cX6_blame 7 = .ok (.aload_n 0, 1) := by decide +kernel
theorem dX6_blame_8 : decode cX6_blame 8 = .ok (.iload_n 1, 1) := by decide +kernel
theorem dX6_blame_9 : decode cX6_blame 9 = .ok (.putfield 38, 3) := by decide +kernel
theorem dX6_blame_12 : decode cX6_blame 12 = .ok (.aload_n 0, 1) := by decide +kernel
theorem dX6_blame_13 : decode cX6_blame 13 = .ok (.iload_n 2, 1) := by decide +kernel
theorem dX6_blame_14 : decode cX6_blame 14 = .ok (.putfield 18, 3) := by decide +kernel
theorem dX6_blame_17 : decode cX6_blame 17 = .ok (.return_, 1) := by decide +kernel
theorem dX6_readEnd_0 : decode cX6_readEnd 0 = .ok (.aload_n 0, 1) := by decide +kernel
theorem dX6_readEnd_1 : decode cX6_readEnd 1 = .ok (.getfield 41, 3) := by decide +kernel
theorem dX6_readEnd_4 : decode cX6_readEnd 4 = .ok (.aload_n 0, 1) := by decide +kernel
theorem dX6_readEnd_5 : decode cX6_readEnd 5 = .ok (.getfield 26, 3) := by decide +kernel
theorem dX6_readEnd_8 : decode cX6_readEnd 8 = .ok (.if_icmp .ge 19, 3) := by decide +kernel
theorem dX6_readEnd_11 : decode cX6_readEnd 11 = .ok (.aload_n 0, 1) := by decide +kernel
theorem dX6_readEnd_12 : decode cX6_readEnd 12 = .ok (.getfield 22, 3) := by decide +kernel
theorem dX6_readEnd_15 : decode cX6_readEnd 15 = .ok (.aload_n 0, 1) := by decide +kernel
theorem dX6_readEnd_16 : decode cX6_readEnd 16 = .ok (.getfield 41, 3) := by decide +kernel
theorem dX6_readEnd_19 : decode cX6_readEnd 19 = .ok (.invokestatic 54, 3) := by decide +kernel
theorem dX6_readEnd_22 : decode cX6_readEnd 22 = .ok (.bipush 59, 2) := by decide +kernel
theorem dX6_readEnd_24 : decode cX6_readEnd 24 = .ok (.if_icmp .eq 12, 3) := by decide +kernel
theorem dX6_readEnd_27 : decode cX6_readEnd 27 = .ok (.aload_n 0, 1) := by decide +kernel
theorem dX6_readEnd_28 : decode cX6_readEnd 28 = .ok (.iconst 1, 1) := by decide +kernel
theorem dX6_readEnd_29 : decode cX6_readEnd 29 = .ok (.aload_n 0, 1) := by decide +kernel
theorem dX6_readEnd_30 : decode cX6_readEnd 30 = .ok (.getfield 41, 3) := by decide +kernel
theorem dX6_readEnd_33 : decode cX6_readEnd 33 = .ok (.invokevirtual 68, 3) := by decide +kernel
theorem dX6_readEnd_36 : decode cX6_readEnd 36 = .ok (.aload_n 0, 1) := by decide +kernel
theorem dX6_readEnd_37 : decode cX6_readEnd 37 = .ok (.dup, 1) := by decide +kernel
theorem dX6_readEnd_38 : decode cX6_readEnd 38 = .ok (.getfield 41, 3) := by decide +kernel
theorem dX6_readEnd_41 : decode cX6_readEnd 41 = .ok (.iconst 1, 1) := by decide +kernel
theorem dX6_readEnd_42 : decode cX6_readEnd 42 = .ok (.iadd, 1) := by decide +kernel
theorem dX6_readEnd_43 : decode cX6_readEnd 43 = .ok (.putfield 41, 3) := by decide +kernel
theorem dX6_readEnd_46 : decode cX6_readEnd 46 = .ok (.aload_n 0, 1) := by decide +kernel
theorem dX6_readEnd_47 : decode cX6_readEnd 47 = .ok (.invokevirtual 48, 3) := by decide +kernel
theorem dX6_readEnd_50 : decode cX6_readEnd 50 = .ok (.return_, 1) := by decide +kernel
theorem dX6_isFigure_0 : decode cX6_isFigure 0 = .ok (.iload_n 0, 1) := by decide +kernel
theorem dX6_isFigure_1 : decode cX6_isFigure 1 = .ok (.bipush 48, 2) := by decide +kernel
theorem dX6_isFigure_3 : decode cX6_isFigure 3 = .ok (.if_icmp .lt 13, 3) := by decide +kernel
theorem dX6_isFigure_6 : decode cX6_isFigure 6 = .ok (.iload_n 0, 1) := by decide +kernel
theorem dX6_isFigure_7 : decode cX6_isFigure 7 = .ok (.bipush 57, 2) := by decide +kernel
theorem dX6_isFigure_9 : decode cX6_isFigure 9 = .ok (.if_icmp .gt 7, 3) := by decide +kernel
theorem dX6_isFigure_12 : decode cX6_isFigure 12 = .ok (.iconst 1, 1) := by decide +kernel
theorem dX6_isFigure_13 : decode cX6_isFigure 13 = .ok (.goto 4, 3) := by decide +kernel
theorem dX6_isFigure_16 : decode cX6_isFigure 16 = .ok (.iconst 0, 1) := by decide +kernel
theorem dX6_isFigure_17 : decode cX6_isFigure 17 = .ok (.ireturn, 1) := by decide +kernel
theorem dX6_readNumber_0 : decode cX6_readNumber 0 = .ok (.aload_n 0, 1) := by decide +kernel
theorem dX6_readNumber_1 : decode cX6_readNumber 1 = .ok (.aload_n 0, 1) := by decide +kernel
theorem dX6_readNumber_2 : decode cX6_readNumber 2 = .ok (.getfield 41, 3) := by decide +kernel
theorem dX6_readNumber_5 : decode cX6_readNumber 5 = .ok (.putfield 65, 3) := by decide +kernel
theorem dX6_readNumber_8 : decode cX6_readNumber 8 = .ok (.iconst 0, 1) := by decide +kernel
theorem dX6_readNumber_9 : decode cX6_readNumber 9 = .ok (.istore_n 3, 1) := by decide +kernel
theorem dX6_readNumber_10 : decode cX6_readNumber 10 = .ok (.aload_n 0, 1) := by decide +kernel
theorem dX6_readNumber_11 : decode cX6_readNumber 11 = .ok (.getfield 41, 3) := by decide +kernel
theorem dX6_readNumber_14 : decode cX6_readNumber 14 = .ok (.aload_n 0, 1) := by decide +kernel
theorem dX6_readNumber_15 : decode cX6_readNumber 15 = .ok (.getfield 26, 3) := by decide +kernel
theorem dX6_readNumber_18 : decode cX6_readNumber 18 = .ok (.if_icmp .ge 59, 3) := by decide +kernel
theorem dX6_readNumber_21 : decode cX6_readNumber 21 = .ok (.aload_n 0, 1) := by decide +kernel
theorem dX6_readNumber_22 : decode cX6_readNumber 22 = .ok (.getfield 22, 3) := by decide +kernel
theorem dX6_readNumber_25 : decode cX6_readNumber 25 = .ok (.aload_n 0, 1) := by decide +kernel
theorem dX6_readNumber_26 : decode cX6_readNumber 26 = .ok (.getfield 41, 3) := by decide +kernel
theorem dX6_readNumber_29 : decode cX6_readNumber 29 = .ok (.invokestatic 54, 3) := by decide +kernel
theorem dX6_readNumber_32 : decode cX6_readNumber 32 = .ok (.invokestatic 110, 3) := by decide +kernel
theorem dX6_readNumber_35 : decode cX6_readNumber 35 = .ok (.ifCond .eq 42, 3) := by decide +kernel
theorem dX6_readNumber_38 : decode cX6_readNumber 38 = .ok (.bipush 10, 2) := by decide +kernel
theorem dX6_readNumber_40 : decode cX6_readNumber 40 = .ok (.iload_n 3, 1) := by decide +kernel
theorem dX6_readNumber_41 : decode cX6_readNumber 41 = .ok (.imul, 1) := by decide +kernel
theorem dX6_readNumber_42 : decode cX6_readNumber 42 = .ok (.aload_n 0, 1) := by decide +kernel
theorem dX6_readNumber_43 : decode cX6_readNumber 43 = .ok (.getfield 22, 3) := by decide +kernel
theorem dX6_readNumber_46 : decode cX6_readNumber 46 = .ok (.aload_n 0, 1) := by decide +kernel
theorem dX6_readNumber_47 : decode cX6_readNumber 47 = .ok (.getfield 41, 3) := by decide +kernel
theorem dX6_readNumber_50 : decode cX6_readNumber 50 = .ok (.invokestatic 54, 3) := by decide +kernel
theorem dX6_readNumber_53 : decode cX6_readNumber 53 = .ok (.iadd, 1) := by decide +kernel
theorem dX6_readNumber_54 : decode cX6_readNumber 54 = .ok (.bipush 48, 2) := by decide +kernel
theorem dX6_readNumber_56 : decode cX6_readNumber 56 = .ok (.isub, 1) := by decide +kernel
theorem dX6_readNumber_57 : decode cX6_readNumber 57 = .ok (.sipush 9999, 3) := by decide +kernel
theorem dX6_readNumber_60 : decode cX6_readNumber 60 = .ok (.invokestatic 113, 3) := by decide +kernel
theorem dX6_readNumber_63 : decode cX6_readNumber 63 = .ok (.istore_n 3, 1) := by decide +kernel
theorem dX6_readNumber_64 : decode cX6_readNumber 64 = .ok (.aload_n 0, 1) := by decide +kernel
theorem dX6_readNumber_65 : decode cX6_readNumber 65 = .ok (.dup, 1) := by decide +kernel
theorem dX6_readNumber_66 : decode cX6_readNumber 66 = .ok (.getfield 41, 3) := by decide +kernel
theorem dX6_readNumber_69 : decode cX6_readNumber 69 = .ok (.iconst 1, 1) := by decide +kernel
theorem dX6_readNumber_70 : decode cX6_readNumber 70 = .ok (.iadd, 1) := by decide +kernel
theorem dX6_readNumber_71 : decode cX6_readNumber 71 = .ok (.putfield 41, 3) := by decide +kernel
theorem dX6_readNumber_74 : decode cX6_readNumber 74 = .ok (.goto (-64), 3) := by decide +kernel
theorem dX6_readNumber_77 : decode cX6_readNumber 77 = .ok (.aload_n 0, 1) := by decide +kernel
theorem dX6_readNumber_78 : decode cX6_readNumber 78 = .ok (.getfield 41, 3) := by decide +kernel
theorem dX6_readNumber_81 : decode cX6_readNumber 81 = .ok (.aload_n 0, 1) := by decide +kernel
theorem dX6_readNumber_82 : decode cX6_readNumber 82 = .ok (.getfield 65, 3) := by decide +kernel
theorem dX6_readNumber_85 : decode cX6_readNumber 85 = .ok (.if_icmp .ne 15, 3) := by decide +kernel
theorem dX6_readNumber_88 : decode cX6_readNumber 88 = .ok (.aload_n 0, 1) := by decide +kernel
theorem dX6_readNumber_89 : decode cX6_readNumber 89 = .ok (.iconst 1, 1) := by decide +kernel
theorem dX6_readNumber_90 : decode cX6_readNumber 90 = .ok (.aload_n 0, 1) := by decide +kernel
theorem dX6_readNumber_91 : decode cX6_readNumber 91 = .ok (.getfield 65, 3) := by decide +kernel
theorem dX6_readNumber_94 : decode cX6_readNumber 94 = .ok (.invokevirtual 68, 3) := by decide +kernel
theorem dX6_readNumber_97 : decode cX6_readNumber 97 = .ok (.goto 35, 3) := by decide +kernel
theorem dX6_readNumber_100 : decode cX6_readNumber 100 = .ok (.aload_n 0, 1) := by decide +kernel
theorem dX6_readNumber_101 : decode cX6_readNumber 101 = .ok (.getfield 41, 3) := by decide +kernel
theorem dX6_readNumber_104 : decode cX6_readNumber 104 = .ok (.aload_n 0, 1) := by decide +kernel
theorem dX6_readNumber_105 : decode cX6_readNumber 105 = .ok (.getfield 65, 3) := by decide +kernel
theorem dX6_readNumber_108 : decode cX6_readNumber 108 = .ok (.isub, 1) := by decide +kernel
theorem dX6_readNumber_109 : decode cX6_readNumber 109 = .ok (.iconst 3, 1) := by decide +kernel
theorem dX6_readNumber_110 : decode cX6_readNumber 110 = .ok (.if_icmp .gt 13, 3) := by decide +kernel
theorem dX6_readNumber_113 : decode cX6_readNumber 113 = .ok (.iload_n 3, 1) := by decide +kernel
theorem dX6_readNumber_114 : decode cX6_readNumber 114 = .ok (.iload_n 1, 1) := by decide +kernel
theorem dX6_readNumber_115 : decode cX6_readNumber 115 = .ok (.if_icmp .lt 8, 3) := by decide +kernel
theorem dX6_readNumber_118 : decode cX6_readNumber 118 = .ok (.iload_n 3, 1) := by decide +kernel
theorem dX6_readNumber_119 : decode cX6_readNumber 119 = .ok (.iload_n 2, 1) := by decide +kernel
theorem dX6_readNumber_120 : decode cX6_readNumber 120 = .ok (.if_icmp .le 12, 3) := by decide +kernel
theorem dX6_readNumber_123 : decode cX6_readNumber 123 = .ok (.aload_n 0, 1) := by decide +kernel
theorem dX6_readNumber_124 : decode cX6_readNumber 124 = .ok (.iconst 2, 1) := by decide +kernel
theorem dX6_readNumber_125 : decode cX6_readNumber 125 = .ok (.aload_n 0, 1) := by decide +kernel
theorem dX6_readNumber_126 : decode cX6_readNumber 126 = .ok (.getfield 65, 3) := by decide +kernel
theorem dX6_readNumber_129 : decode cX6_readNumber 129 = .ok (.invokevirtual 68, 3) := by decide +kernel
theorem dX6_readNumber_132 : decode cX6_readNumber 132 = .ok (.aload_n 0, 1) := by decide +kernel
theorem dX6_readNumber_133 : decode cX6_readNumber 133 = .ok (.invokevirtual 48, 3) := by decide +kernel
theorem dX6_readNumber_136 : decode cX6_readNumber 136 = .ok (.iload_n 3, 1) := by decide +kernel
theorem dX6_readNumber_137 : decode cX6_readNumber 137 = .ok (.ireturn, 1) := by decide +kernel
theorem dX4_mayPlace_0 : decode cX4_mayPlace 0 = .ok (.iconst 0, 1) := by decide +kernel
theorem dX4_mayPlace_1 : decode cX4_mayPlace 1 = .ok (.istore_n 3, 1) := by decide +kernel
theorem dX4_mayPlace_2 : decode cX4_mayPlace 2 = .ok (.iload_n 3, 1) := by decide +kernel
theorem dX4_mayPlace_3 : decode cX4_mayPlace 3 = .ok (.bipush 6, 2) := by decide +kernel
theorem dX4_mayPlace_5 : decode cX4_mayPlace 5 = .ok (.if_icmp .ge 21, 3) := by decide +kernel
theorem dX4_mayPlace_8 : decode cX4_mayPlace 8 = .ok (.aload_n 0, 1) := by decide +kernel
theorem dX4_mayPlace_9 : decode cX4_mayPlace 9 = .ok (.getfield 18, 3) := by decide +kernel
theorem dX4_mayPlace_12 : decode cX4_mayPlace 12 = .ok (.iload_n 3, 1) := by decide +kernel
theorem dX4_mayPlace_13 : decode cX4_mayPlace 13 = .ok (.iaload, 1) := by decide +kernel
theorem dX4_mayPlace_14 : decode cX4_mayPlace 14 = .ok (.iload_n 2, 1) := by decide +kernel
theorem dX4_mayPlace_15 : decode cX4_mayPlace 15 = .ok (.if_icmp .ne 5, 3) := by decide +kernel
theorem dX4_mayPlace_18 : decode cX4_mayPlace 18 = .ok (.iconst 0, 1) := by decide +kernel
theorem dX4_mayPlace_19 : decode cX4_mayPlace 19 = .ok (.ireturn, 1) := by decide +kernel
theorem dX4_mayPlace_20 : decode cX4_mayPlace 20 = .ok (.iinc 3 1, 3) := by decide +kernel
theorem dX4_mayPlace_23 : decode cX4_mayPlace 23 = .ok (.goto (-21), 3) := by decide +kernel
theorem dX4_mayPlace_26 : decode cX4_mayPlace 26 = .ok (.aload_n 0, 1) := by decide +kernel
theorem dX4_mayPlace_27 : decode cX4_mayPlace 27 = .ok (.getfield 21, 3) := by decide +kernel
theorem dX4_mayPlace_30 : decode cX4_mayPlace 30 = .ok (.iload_n 1, 1) := by decide +kernel
theorem dX4_mayPlace_31 : decode cX4_mayPlace 31 = .ok (.invokestatic 43, 3) := by decide +kernel
theorem dX4_mayPlace_34 : decode cX4_mayPlace 34 = .ok (.iconst 3, 1) := by decide +kernel
theorem dX4_mayPlace_35 : decode cX4_mayPlace 35 = .ok (.if_icmp .ge 7, 3) := by decide +kernel
theorem dX4_mayPlace_38 : decode cX4_mayPlace 38 = .ok (.iconst 1, 1) := by decide +kernel
theorem dX4_mayPlace_39 : decode cX4_mayPlace 39 = .ok (.goto 4, 3) := by decide +kernel
theorem dX4_mayPlace_42 : decode cX4_mayPlace 42 = .ok (.iconst 0, 1) := by decide +kernel
theorem dX4_mayPlace_43 : decode cX4_mayPlace 43 = .ok (.ireturn, 1) := by decide +kernel
theorem dX10_slot_0 : decode cX10_slot 0 = .ok (.iconst 3, 1) := by decide +kernel
theorem dX10_slot_1 : decode cX10_slot 1 = .ok (.iload_n 0, 1) := by decide +kernel
theorem dX10_slot_2 : decode cX10_slot 2 = .ok (.imul, 1) := by decide +kernel
theorem dX10_slot_3 : decode cX10_slot 3 = .ok (.iload_n 1, 1) := by decide +kernel
theorem dX10_slot_4 : decode cX10_slot 4 = .ok (.iadd, 1) := by decide +kernel
theorem dX10_slot_5 : decode cX10_slot 5 = .ok (.ireturn, 1) := by decide +kernel
theorem dX4_place_0 : decode cX4_place 0 = .ok (.aload_n 0, 1) := by decide +kernel
theorem dX4_place_1 : decode cX4_place 1 = .ok (.getfield 21, 3) := by decide +kernel
theorem dX4_place_4 : decode cX4_place 4 = .ok (.iload_n 1, 1) := by decide +kernel
theorem dX4_place_5 : decode cX4_place 5 = .ok (.invokestatic 43, 3) := by decide +kernel
theorem dX4_place_8 : decode cX4_place 8 = .ok (.istore_n 3, 1) := by decide +kernel
theorem dX4_place_9 : decode cX4_place 9 = .ok (.aload_n 0, 1) := by decide +kernel
theorem dX4_place_10 : decode cX4_place 10 = .ok (.getfield 18, 3) := by decide +kernel
theorem dX4_place_13 : decode cX4_place 13 = .ok (.iload_n 1, 1) := by decide +kernel
theorem dX4_place_14 : decode cX4_place 14 = .ok (.iload_n 3, 1) := by decide +kernel
theorem dX4_place_15 : decode cX4_place 15 = .ok (.invokestatic 67, 3) := by decide +kernel
theorem dX4_place_18 : decode cX4_place 18 = .ok (.iload_n 2, 1) := by decide +kernel
theorem dX4_place_19 : decode cX4_place 19 = .ok (.invokestatic 63, 3) := by decide +kernel
theorem dX4_place_22 : decode cX4_place 22 = .ok (.aload_n 0, 1) := by decide +kernel
theorem dX4_place_23 : decode cX4_place 23 = .ok (.getfield 21, 3) := by decide +kernel
theorem dX4_place_26 : decode cX4_place 26 = .ok (.iload_n 1, 1) := by decide +kernel
theorem dX4_place_27 : decode cX4_place 27 = .ok (.iload_n 3, 1) := by decide +kernel
theorem dX4_place_28 : decode cX4_place 28 = .ok (.iconst 1, 1) := by decide +kernel
theorem dX4_place_29 : decode cX4_place 29 = .ok (.iadd, 1) := by decide +kernel
theorem dX4_place_30 : decode cX4_place 30 = .ok (.invokestatic 63, 3) := by decide +kernel
theorem dX4_place_33 : decode cX4_place 33 = .ok (.return_, 1) := by decide +kernel
theorem dX6_readMan_0 : decode cX6_readMan 0 = .ok (.aload_n 0, 1) := by decide +kernel
theorem dX6_readMan_1 : decode cX6_readMan 1 = .ok (.iconst 0, 1) := by decide +kernel
theorem dX6_readMan_2 : decode cX6_readMan 2 = .ok (.iconst 1, 1) := by decide +kernel
theorem dX6_readMan_3 : decode cX6_readMan 3 = .ok (.invokevirtual 119, 3) := by decide +kernel
theorem dX6_readMan_6 : decode cX6_readMan 6 = .ok (.istore_n 1, 1) := by decide +kernel
theorem dX6_readMan_7 : decode cX6_readMan 7 = .ok (.aload_n 0, 1) := by decide +kernel
theorem dX6_readMan_8 : decode cX6_readMan 8 = .ok (.iconst 0, 1) := by decide +kernel
theorem dX6_readMan_9 : decode cX6_readMan 9 = .ok (.aload_n 0, 1) := by decide +kernel
theorem dX6_readMan_10 : decode cX6_readMan 10 = .ok (.getfield 12, 3) := by decide +kernel
theorem dX6_readMan_13 : decode cX6_readMan 13 = .ok (.getfield 62, 3) := by decide +kernel
theorem dX6_readMan_16 : decode cX6_readMan 16 = .ok (.iconst 1, 1) := by decide +kernel
theorem dX6_readMan_17 : decode cX6_readMan 17 = .ok (.isub, 1) := by decide +kernel
theorem dX6_readMan_18 : decode cX6_readMan 18 = .ok (.invokevirtual 119, 3) := by decide +kernel
theorem dX6_readMan_21 : decode cX6_readMan 21 = .ok (.istore_n 2, 1) := by decide +kernel
theorem dX6_readMan_22 : decode cX6_readMan 22 = .ok (.aload_n 0, 1) := by decide +kernel
theorem dX6_readMan_23 : decode cX6_readMan 23 = .ok (.getfield 38, 3) := by decide +kernel
theorem dX6_readMan_26 : decode cX6_readMan 26 = .ok (.ifCond .eq 4, 3) := by decide +kernel
theorem dX6_readMan_29 : decode cX6_readMan 29 = .ok (.return_, 1) := by decide +kernel
theorem dX6_readMan_30 : decode cX6_readMan 30 = .ok (.aload_n 0, 1) := by decide +kernel
theorem dX6_readMan_31 : decode cX6_readMan 31 = .ok (.getfield 12, 3) := by decide +kernel
theorem dX6_readMan_34 : decode cX6_readMan 34 = .ok (.iload_n 1, 1) := by decide +kernel
theorem dX6_readMan_35 : decode cX6_readMan 35 = .ok (.iload_n 2, 1) := by decide +kernel
theorem dX6_readMan_36 : decode cX6_readMan 36 = .ok (.invokevirtual 135, 3) := by decide +kernel
theorem dX6_readMan_39 : decode cX6_readMan 39 = .ok (.ifCond .eq 15, 3) := by decide +kernel
theorem dX6_readMan_42 : decode cX6_readMan 42 = .ok (.aload_n 0, 1) := by decide +kernel
theorem dX6_readMan_43 : decode cX6_readMan 43 = .ok (.getfield 12, 3) := by decide +kernel
theorem dX6_readMan_46 : decode cX6_readMan 46 = .ok (.iload_n 1, 1) := by decide +kernel
theorem dX6_readMan_47 : decode cX6_readMan 47 = .ok (.iload_n 2, 1) := by decide +kernel
theorem dX6_readMan_48 : decode cX6_readMan 48 = .ok (.invokevirtual 138, 3) := by decide +kernel
theorem dX6_readMan_51 : decode cX6_readMan 51 = .ok (.goto 12, 3) := by decide +kernel
theorem dX6_readMan_54 : decode cX6_readMan 54 = .ok (.aload_n 0, 1) := by decide +kernel
theorem dX6_readMan_55 : decode cX6_readMan 55 = .ok (.iconst 4, 1) := by decide +kernel
theorem dX6_readMan_56 : decode cX6_readMan 56 = .ok (.aload_n 0, 1) := by decide +kernel
theorem dX6_readMan_57 : decode cX6_readMan 57 = .ok (.getfield 65, 3) := by decide +kernel
theorem dX6_readMan_60 : decode cX6_readMan 60 = .ok (.invokevirtual 68, 3) := by decide +kernel
theorem dX6_readMan_63 : decode cX6_readMan 63 = .ok (.return_, 1) := by decide +kernel
theorem dX6_readHome_0 : decode cX6_readHome 0 = .ok (.aload_n 0, 1) := by decide +kernel
theorem dX6_readHome_1 : decode cX6_readHome 1 = .ok (.iconst 0, 1) := by decide +kernel
theorem dX6_readHome_2 : decode cX6_readHome 2 = .ok (.aload_n 0, 1) := by decide +kernel
theorem dX6_readHome_3 : decode cX6_readHome 3 = .ok (.getfield 12, 3) := by decide +kernel
theorem dX6_readHome_6 : decode cX6_readHome 6 = .ok (.getfield 62, 3) := by decide +kernel
theorem dX6_readHome_9 : decode cX6_readHome 9 = .ok (.iconst 1, 1) := by decide +kernel
theorem dX6_readHome_10 : decode cX6_readHome 10 = .ok (.isub, 1) := by decide +kernel
theorem dX6_readHome_11 : decode cX6_readHome 11 = .ok (.invokevirtual 119, 3) := by decide +kernel
theorem dX6_readHome_14 : decode cX6_readHome 14 = .ok (.istore_n 1, 1) := by decide +kernel
theorem dX6_readHome_15 : decode cX6_readHome 15 = .ok (.aload_n 0, 1) := by decide +kernel
theorem dX6_readHome_16 : decode cX6_readHome 16 = .ok (.iconst 0, 1) := by decide +kernel
theorem dX6_readHome_17 : decode cX6_readHome 17 = .ok (.aload_n 0, 1) := by decide +kernel
theorem dX6_readHome_18 : decode cX6_readHome 18 = .ok (.getfield 12, 3) := by decide +kernel
theorem dX6_readHome_21 : decode cX6_readHome 21 = .ok (.getfield 62, 3) := by decide +kernel
theorem dX6_readHome_24 : decode cX6_readHome 24 = .ok (.iconst 1, 1) := by decide +kernel
theorem dX6_readHome_25 : decode cX6_readHome 25 = .ok (.isub, 1) := by decide +kernel
theorem dX6_readHome_26 : decode cX6_readHome 26 = .ok (.invokevirtual 119, 3) := by decide +kernel
theorem dX6_readHome_29 : decode cX6_readHome 29 = .ok (.istore_n 2, 1) := by decide +kernel
theorem dX6_readHome_30 : decode cX6_readHome 30 = .ok (.iload_n 1, 1) := by decide +kernel
theorem dX6_readHome_31 : decode cX6_readHome 31 = .ok (.iload_n 2, 1) := by decide +kernel
theorem dX6_readHome_32 : decode cX6_readHome 32 = .ok (.if_icmp .ne 12, 3) := by decide +kernel
theorem dX6_readHome_35 : decode cX6_readHome 35 = .ok (.aload_n 0, 1) := by decide +kernel
theorem dX6_readHome_36 : decode cX6_readHome 36 = .ok (.iconst 4, 1) := by decide +kernel
theorem dX6_readHome_37 : decode cX6_readHome 37 = .ok (.aload_n 0, 1) := by decide +kernel
theorem dX6_readHome_38 : decode cX6_readHome 38 = .ok (.getfield 65, 3) := by decide +kernel
theorem dX6_readHome_41 : decode cX6_readHome 41 = .ok (.invokevirtual 68, 3) := by decide +kernel
theorem dX6_readHome_44 : decode cX6_readHome 44 = .ok (.aload_n 0, 1) := by decide +kernel
theorem dX6_readHome_45 : decode cX6_readHome 45 = .ok (.iconst 1, 1) := by decide +kernel
theorem dX6_readHome_46 : decode cX6_readHome 46 = .ok (.putfield 44, 3) := by decide +kernel
theorem dX6_readHome_49 : decode cX6_readHome 49 = .ok (.aload_n 0, 1) := by decide +kernel
theorem dX6_readHome_50 : decode cX6_readHome 50 = .ok (.getfield 12, 3) := by decide +kernel
theorem dX6_readHome_53 : decode cX6_readHome 53 = .ok (.getfield 133, 3) := by decide +kernel
theorem dX6_readHome_56 : decode cX6_readHome 56 = .ok (.iconst 0, 1) := by decide +kernel
theorem dX6_readHome_57 : decode cX6_readHome 57 = .ok (.iload_n 1, 1) := by decide +kernel
theorem dX6_readHome_58 : decode cX6_readHome 58 = .ok (.iastore, 1) := by decide +kernel
theorem dX6_readHome_59 : decode cX6_readHome 59 = .ok (.aload_n 0, 1) := by decide +kernel
theorem dX6_readHome_60 : decode cX6_readHome 60 = .ok (.getfield 12, 3) := by decide +kernel
theorem dX6_readHome_63 : decode cX6_readHome 63 = .ok (.getfield 133, 3) := by decide +kernel
theorem dX6_readHome_66 : decode cX6_readHome 66 = .ok (.iconst 1, 1) := by decide +kernel
theorem dX6_readHome_67 : decode cX6_readHome 67 = .ok (.iload_n 2, 1) := by decide +kernel
theorem dX6_readHome_68 : decode cX6_readHome 68 = .ok (.iastore, 1) := by decide +kernel
theorem dX6_readHome_69 : decode cX6_readHome 69 = .ok (.return_, 1) := by decide +kernel
theorem dX4_waySetOf_0 : decode cX4_waySetOf 0 = .ok (.iload_n 1, 1) := by decide +kernel
theorem dX4_waySetOf_1 : decode cX4_waySetOf 1 = .ok (.ifCond .lt 21, 3) := by decide +kernel
theorem dX4_waySetOf_4 : decode cX4_waySetOf 4 = .ok (.iload_n 1, 1) := by decide +kernel
theorem dX4_waySetOf_5 : decode cX4_waySetOf 5 = .ok (.aload_n 0, 1) := by decide +kernel
theorem dX4_waySetOf_6 : decode cX4_waySetOf 6 = .ok (.getfield 9, 3) := by decide +kernel
theorem dX4_waySetOf_9 : decode cX4_waySetOf 9 = .ok (.arraylength, 1) := by decide +kernel
theorem dX4_waySetOf_10 : decode cX4_waySetOf 10 = .ok (.if_icmp .ge 12, 3) := by decide +kernel
theorem dX4_waySetOf_13 : decode cX4_waySetOf 13 = .ok (.aload_n 0, 1) := by decide +kernel
theorem dX4_waySetOf_14 : decode cX4_waySetOf 14 = .ok (.getfield 9, 3) := by decide +kernel
theorem dX4_waySetOf_17 : decode cX4_waySetOf 17 = .ok (.iload_n 1, 1) := by decide +kernel
theorem dX4_waySetOf_18 : decode cX4_waySetOf 18 = .ok (.iaload, 1) := by decide +kernel
theorem dX4_waySetOf_19 : decode cX4_waySetOf 19 = .ok (.goto 4, 3) := by decide +kernel
theorem dX4_waySetOf_22 : decode cX4_waySetOf 22 = .ok (.iconst 0, 1) := by decide +kernel
theorem dX4_waySetOf_23 : decode cX4_waySetOf 23 = .ok (.ireturn, 1) := by decide +kernel
theorem dX4_hasWay_0 : decode cX4_hasWay 0 = .ok (.iload_n 2, 1) := by decide +kernel
theorem dX4_hasWay_1 : decode cX4_hasWay 1 = .ok (.ifCond .lt 26, 3) := by decide +kernel
theorem dX4_hasWay_4 : decode cX4_hasWay 4 = .ok (.iload_n 2, 1) := by decide +kernel
theorem dX4_hasWay_5 : decode cX4_hasWay 5 = .ok (.bipush 9, 2) := by decide +kernel
theorem dX4_hasWay_7 : decode cX4_hasWay 7 = .ok (.if_icmp .ge 20, 3) := by decide +kernel
theorem dX4_hasWay_10 : decode cX4_hasWay 10 = .ok (.aload_n 0, 1) := by decide +kernel
theorem dX4_hasWay_11 : decode cX4_hasWay 11 = .ok (.iload_n 1, 1) := by decide +kernel
theorem dX4_hasWay_12 : decode cX4_hasWay 12 = .ok (.invokevirtual 47, 3) := by decide +kernel
theorem dX4_hasWay_15 : decode cX4_hasWay 15 = .ok (.iload_n 2, 1) := by decide +kernel
theorem dX4_hasWay_16 : decode cX4_hasWay 16 = .ok (.ishr, 1) := by decide +kernel
theorem dX4_hasWay_17 : decode cX4_hasWay 17 = .ok (.iconst 1, 1) := by decide +kernel
theorem dX4_hasWay_18 : decode cX4_hasWay 18 = .ok (.iand, 1) := by decide +kernel
theorem dX4_hasWay_19 : decode cX4_hasWay 19 = .ok (.iconst 1, 1) := by decide +kernel
theorem dX4_hasWay_20 : decode cX4_hasWay 20 = .ok (.if_icmp .ne 7, 3) := by decide +kernel
theorem dX4_hasWay_23 : decode cX4_hasWay 23 = .ok (.iconst 1, 1) := by decide +kernel
theorem dX4_hasWay_24 : decode cX4_hasWay 24 = .ok (.goto 4, 3) := by decide +kernel
theorem dX4_hasWay_27 : decode cX4_hasWay 27 = .ok (.iconst 0, 1) := by decide +kernel
theorem dX4_hasWay_28 : decode cX4_hasWay 28 = .ok (.ireturn, 1) := by decide +kernel
theorem dJ6_bitCount_0f7a4_0 : decode cJ6_bitCount_0f7a4 0 = .ok (.iload_n 0, 1) := by decide +kernel
theorem dJ6_bitCount_0f7a4_1 : decode cJ6_bitCount_0f7a4 1 = .ok (.iload_n 0, 1) := by decide +kernel
theorem dJ6_bitCount_0f7a4_2 : decode cJ6_bitCount_0f7a4 2 = .ok (.iconst 1, 1) := by decide +kernel
theorem dJ6_bitCount_0f7a4_3 : decode cJ6_bitCount_0f7a4 3 = .ok (.iushr, 1) := by decide +kernel
theorem dJ6_bitCount_0f7a4_4 : decode cJ6_bitCount_0f7a4 4 = .ok (.ldc_w 265, 3) := by decide +kernel
theorem dJ6_bitCount_0f7a4_7 : decode cJ6_bitCount_0f7a4 7 = .ok (.iand, 1) := by decide +kernel
theorem dJ6_bitCount_0f7a4_8 : decode cJ6_bitCount_0f7a4 8 = .ok (.isub, 1) := by decide +kernel
theorem dJ6_bitCount_0f7a4_9 : decode cJ6_bitCount_0f7a4 9 = .ok (.istore_n 0, 1) := by decide +kernel
theorem dJ6_bitCount_0f7a4_10 : decode cJ6_bitCount_0f7a4 10 = .ok (.iload_n 0, 1) := by decide +kernel
theorem dJ6_bitCount_0f7a4_11 : decode cJ6_bitCount_0f7a4 11 = .ok (.ldc_w 266, 3) := by decide +kernel
theorem dJ6_bitCount_0f7a4_14 : decode cJ6_bitCount_0f7a4 14 = .ok (.iand, 1) := by decide +kernel
theorem dJ6_bitCount_0f7a4_15 : decode cJ6_bitCount_0f7a4 15 = .ok (.iload_n 0, 1) := by decide +kernel
theorem dJ6_bitCount_0f7a4_16 : decode cJ6_bitCount_0f7a4 16 = .ok (.iconst 2, 1) := by decide +kernel
theorem dJ6_bitCount_0f7a4_17 : decode cJ6_bitCount_0f7a4 17 = .ok (.iushr, 1) := by decide +kernel
theorem dJ6_bitCount_0f7a4_18 : decode cJ6_bitCount_0f7a4 18 = .ok (.ldc_w 266, 3) := by decide +kernel
theorem dJ6_bitCount_0f7a4_21 : decode cJ6_bitCount_0f7a4 21 = .ok (.iand, 1) := by decide +kernel
theorem dJ6_bitCount_0f7a4_22 : decode cJ6_bitCount_0f7a4 22 = .ok (.iadd, 1) := by decide +kernel
theorem dJ6_bitCount_0f7a4_23 : decode cJ6_bitCount_0f7a4 23 = .ok (.istore_n 0, 1) := by decide +kernel
theorem dJ6_bitCount_0f7a4_24 : decode cJ6_bitCount_0f7a4 24 = .ok (.iload_n 0, 1) := by decide +kernel
theorem dJ6_bitCount_0f7a4_25 : decode cJ6_bitCount_0f7a4 25 = .ok (.iload_n 0, 1) := by decide +kernel
theorem dJ6_bitCount_0f7a4_26 : decode cJ6_bitCount_0f7a4 26 = .ok (.iconst 4, 1) := by decide +kernel
theorem dJ6_bitCount_0f7a4_27 : decode cJ6_bitCount_0f7a4 27 = .ok (.iushr, 1) := by decide +kernel
theorem dJ6_bitCount_0f7a4_28 : decode cJ6_bitCount_0f7a4 28 = .ok (.iadd, 1) := by decide +kernel
theorem dJ6_bitCount_0f7a4_29 : decode cJ6_bitCount_0f7a4 29 = .ok (.ldc_w 267, 3) := by decide +kernel
theorem dJ6_bitCount_0f7a4_32 : decode cJ6_bitCount_0f7a4 32 = .ok (.iand, 1) := by decide +kernel
theorem dJ6_bitCount_0f7a4_33 : decode cJ6_bitCount_0f7a4 33 = .ok (.istore_n 0, 1) := by decide +kernel
theorem dJ6_bitCount_0f7a4_34 : decode cJ6_bitCount_0f7a4 34 = .ok (.iload_n 0, 1) := by decide +kernel
theorem dJ6_bitCount_0f7a4_35 : decode cJ6_bitCount_0f7a4 35 = .ok (.iload_n 0, 1) := by decide +kernel
theorem dJ6_bitCount_0f7a4_36 : decode cJ6_bitCount_0f7a4 36 = .ok (.bipush 8, 2) := by decide +kernel
theorem dJ6_bitCount_0f7a4_38 : decode cJ6_bitCount_0f7a4 38 = .ok (.iushr, 1) := by decide +kernel
theorem dJ6_bitCount_0f7a4_39 : decode cJ6_bitCount_0f7a4 39 = .ok (.iadd, 1) := by decide +kernel
theorem dJ6_bitCount_0f7a4_40 : decode cJ6_bitCount_0f7a4 40 = .ok (.istore_n 0, 1) := by decide +kernel
theorem dJ6_bitCount_0f7a4_41 : decode cJ6_bitCount_0f7a4 41 = .ok (.iload_n 0, 1) := by decide +kernel
theorem dJ6_bitCount_0f7a4_42 : decode cJ6_bitCount_0f7a4 42 = .ok (.iload_n 0, 1) := by decide +kernel
theorem dJ6_bitCount_0f7a4_43 : decode cJ6_bitCount_0f7a4 43 = .ok (.bipush 16, 2) := by decide +kernel
theorem dJ6_bitCount_0f7a4_45 : decode cJ6_bitCount_0f7a4 45 = .ok (.iushr, 1) := by decide +kernel
theorem dJ6_bitCount_0f7a4_46 : decode cJ6_bitCount_0f7a4 46 = .ok (.iadd, 1) := by decide +kernel
theorem dJ6_bitCount_0f7a4_47 : decode cJ6_bitCount_0f7a4 47 = .ok (.istore_n 0, 1) := by decide +kernel
theorem dJ6_bitCount_0f7a4_48 : decode cJ6_bitCount_0f7a4 48 = .ok (.iload_n 0, 1) := by decide +kernel
theorem dJ6_bitCount_0f7a4_49 : decode cJ6_bitCount_0f7a4 49 = .ok (.bipush 63, 2) := by decide +kernel
theorem dJ6_bitCount_0f7a4_51 : decode cJ6_bitCount_0f7a4 51 = .ok (.iand, 1) := by decide +kernel
theorem dJ6_bitCount_0f7a4_52 : decode cJ6_bitCount_0f7a4 52 = .ok (.ireturn, 1) := by decide +kernel
theorem dX4_manyWays_0 : decode cX4_manyWays 0 = .ok (.aload_n 0, 1) := by decide +kernel
theorem dX4_manyWays_1 : decode cX4_manyWays 1 = .ok (.iload_n 1, 1) := by decide +kernel
theorem dX4_manyWays_2 : decode cX4_manyWays 2 = .ok (.invokevirtual 47, 3) := by decide +kernel
theorem dX4_manyWays_5 : decode cX4_manyWays 5 = .ok (.invokestatic 51, 3) := by decide +kernel
theorem dX4_manyWays_8 : decode cX4_manyWays 8 = .ok (.ireturn, 1) := by decide +kernel
theorem dX4_mayJoin_0 : decode cX4_mayJoin 0 = .ok (.iload_n 1, 1) := by decide +kernel
theorem dX4_mayJoin_1 : decode cX4_mayJoin 1 = .ok (.iload_n 2, 1) := by decide +kernel
theorem dX4_mayJoin_2 : decode cX4_mayJoin 2 = .ok (.if_icmp .eq 34, 3) := by decide +kernel
theorem dX4_mayJoin_5 : decode cX4_mayJoin 5 = .ok (.aload_n 0, 1) := by decide +kernel
theorem dX4_mayJoin_6 : decode cX4_mayJoin 6 = .ok (.iload_n 1, 1) := by decide +kernel
theorem dX4_mayJoin_7 : decode cX4_mayJoin 7 = .ok (.iload_n 2, 1) := by decide +kernel
theorem dX4_mayJoin_8 : decode cX4_mayJoin 8 = .ok (.invokevirtual 56, 3) := by decide +kernel
theorem dX4_mayJoin_11 : decode cX4_mayJoin 11 = .ok (.ifCond .ne 25, 3) := by decide +kernel
theorem dX4_mayJoin_14 : decode cX4_mayJoin 14 = .ok (.aload_n 0, 1) := by decide +kernel
theorem dX4_mayJoin_15 : decode cX4_mayJoin 15 = .ok (.iload_n 1, 1) := by decide +kernel
theorem dX4_mayJoin_16 : decode cX4_mayJoin 16 = .ok (.invokevirtual 60, 3) := by decide +kernel
theorem dX4_mayJoin_19 : decode cX4_mayJoin 19 = .ok (.iconst 3, 1) := by decide +kernel
theorem dX4_mayJoin_20 : decode cX4_mayJoin 20 = .ok (.if_icmp .ge 16, 3) := by decide +kernel
theorem dX4_mayJoin_23 : decode cX4_mayJoin 23 = .ok (.aload_n 0, 1) := by decide +kernel
theorem dX4_mayJoin_24 : decode cX4_mayJoin 24 = .ok (.iload_n 2, 1) := by decide +kernel
theorem dX4_mayJoin_25 : decode cX4_mayJoin 25 = .ok (.invokevirtual 60, 3) := by decide +kernel
theorem dX4_mayJoin_28 : decode cX4_mayJoin 28 = .ok (.iconst 3, 1) := by decide +kernel
theorem dX4_mayJoin_29 : decode cX4_mayJoin 29 = .ok (.if_icmp .ge 7, 3) := by decide +kernel
theorem dX4_mayJoin_32 : decode cX4_mayJoin 32 = .ok (.iconst 1, 1) := by decide +kernel
theorem dX4_mayJoin_33 : decode cX4_mayJoin 33 = .ok (.goto 4, 3) := by decide +kernel
theorem dX4_mayJoin_36 : decode cX4_mayJoin 36 = .ok (.iconst 0, 1) := by decide +kernel
theorem dX4_mayJoin_37 : decode cX4_mayJoin 37 = .ok (.ireturn, 1) := by decide +kernel
theorem dX4_join_0 : decode cX4_join 0 = .ok (.aload_n 0, 1) := by decide +kernel
theorem dX4_join_1 : decode cX4_join 1 = .ok (.getfield 9, 3) := by decide +kernel
theorem dX4_join_4 : decode cX4_join 4 = .ok (.iload_n 1, 1) := by decide +kernel
theorem dX4_join_5 : decode cX4_join 5 = .ok (.aload_n 0, 1) := by decide +kernel
theorem dX4_join_6 : decode cX4_join 6 = .ok (.iload_n 1, 1) := by decide +kernel
theorem dX4_join_7 : decode cX4_join 7 = .ok (.invokevirtual 47, 3) := by decide +kernel
theorem dX4_join_10 : decode cX4_join 10 = .ok (.iconst 1, 1) := by decide +kernel
theorem dX4_join_11 : decode cX4_join 11 = .ok (.iload_n 2, 1) := by decide +kernel
theorem dX4_join_12 : decode cX4_join 12 = .ok (.ishl, 1) := by decide +kernel
theorem dX4_join_13 : decode cX4_join 13 = .ok (.ior, 1) := by decide +kernel
theorem dX4_join_14 : decode cX4_join 14 = .ok (.invokestatic 63, 3) := by decide +kernel
theorem dX4_join_17 : decode cX4_join 17 = .ok (.aload_n 0, 1) := by decide +kernel
theorem dX4_join_18 : decode cX4_join 18 = .ok (.getfield 9, 3) := by decide +kernel
theorem dX4_join_21 : decode cX4_join 21 = .ok (.iload_n 2, 1) := by decide +kernel
theorem dX4_join_22 : decode cX4_join 22 = .ok (.aload_n 0, 1) := by decide +kernel
theorem dX4_join_23 : decode cX4_join 23 = .ok (.iload_n 2, 1) := by decide +kernel
theorem dX4_join_24 : decode cX4_join 24 = .ok (.invokevirtual 47, 3) := by decide +kernel
theorem dX4_join_27 : decode cX4_join 27 = .ok (.iconst 1, 1) := by decide +kernel
theorem dX4_join_28 : decode cX4_join 28 = .ok (.iload_n 1, 1) := by decide +kernel
theorem dX4_join_29 : decode cX4_join 29 = .ok (.ishl, 1) := by decide +kernel
theorem dX4_join_30 : decode cX4_join 30 = .ok (.ior, 1) := by decide +kernel
theorem dX4_join_31 : decode cX4_join 31 = .ok (.invokestatic 63, 3) := by decide +kernel
theorem dX4_join_34 : decode cX4_join 34 = .ok (.return_, 1) := by decide +kernel
theorem dX6_readWay_0 : decode cX6_readWay 0 = .ok (.aload_n 0, 1) := by decide +kernel
theorem dX6_readWay_1 : decode cX6_readWay 1 = .ok (.iconst 0, 1) := by decide +kernel
theorem dX6_readWay_2 : decode cX6_readWay 2 = .ok (.aload_n 0, 1) := by decide +kernel
theorem dX6_readWay_3 : decode cX6_readWay 3 = .ok (.getfield 12, 3) := by decide +kernel
theorem dX6_readWay_6 : decode cX6_readWay 6 = .ok (.getfield 62, 3) := by decide +kernel
theorem dX6_readWay_9 : decode cX6_readWay 9 = .ok (.iconst 1, 1) := by decide +kernel
theorem dX6_readWay_10 : decode cX6_readWay 10 = .ok (.isub, 1) := by decide +kernel
theorem dX6_readWay_11 : decode cX6_readWay 11 = .ok (.invokevirtual 119, 3) := by decide +kernel
theorem dX6_readWay_14 : decode cX6_readWay 14 = .ok (.istore_n 1, 1) := by decide +kernel
theorem dX6_readWay_15 : decode cX6_readWay 15 = .ok (.aload_n 0, 1) := by decide +kernel
theorem dX6_readWay_16 : decode cX6_readWay 16 = .ok (.iconst 0, 1) := by decide +kernel
theorem dX6_readWay_17 : decode cX6_readWay 17 = .ok (.aload_n 0, 1) := by decide +kernel
theorem dX6_readWay_18 : decode cX6_readWay 18 = .ok (.getfield 12, 3) := by decide +kernel
theorem dX6_readWay_21 : decode cX6_readWay 21 = .ok (.getfield 62, 3) := by decide +kernel
theorem dX6_readWay_24 : decode cX6_readWay 24 = .ok (.iconst 1, 1) := by decide +kernel
theorem dX6_readWay_25 : decode cX6_readWay 25 = .ok (.isub, 1) := by decide +kernel
theorem dX6_readWay_26 : decode cX6_readWay 26 = .ok (.invokevirtual 119, 3) := by decide +kernel
theorem dX6_readWay_29 : decode cX6_readWay 29 = .ok (.istore_n 2, 1) := by decide +kernel
theorem dX6_readWay_30 : decode cX6_readWay 30 = .ok (.aload_n 0, 1) := by decide +kernel
theorem dX6_readWay_31 : decode cX6_readWay 31 = .ok (.getfield 38, 3) := by decide +kernel
theorem dX6_readWay_34 : decode cX6_readWay 34 = .ok (.ifCond .eq 4, 3) := by decide +kernel
theorem dX6_readWay_37 : decode cX6_readWay 37 = .ok (.return_, 1) := by decide +kernel
theorem dX6_readWay_38 : decode cX6_readWay 38 = .ok (.aload_n 0, 1) := by decide +kernel
theorem dX6_readWay_39 : decode cX6_readWay 39 = .ok (.getfield 12, 3) := by decide +kernel
theorem dX6_readWay_42 : decode cX6_readWay 42 = .ok (.iload_n 1, 1) := by decide +kernel
theorem dX6_readWay_43 : decode cX6_readWay 43 = .ok (.iload_n 2, 1) := by decide +kernel
theorem dX6_readWay_44 : decode cX6_readWay 44 = .ok (.invokevirtual 126, 3) := by decide +kernel
theorem dX6_readWay_47 : decode cX6_readWay 47 = .ok (.ifCond .eq 15, 3) := by decide +kernel
theorem dX6_readWay_50 : decode cX6_readWay 50 = .ok (.aload_n 0, 1) := by decide +kernel
theorem dX6_readWay_51 : decode cX6_readWay 51 = .ok (.getfield 12, 3) := by decide +kernel
theorem dX6_readWay_54 : decode cX6_readWay 54 = .ok (.iload_n 1, 1) := by decide +kernel
theorem dX6_readWay_55 : decode cX6_readWay 55 = .ok (.iload_n 2, 1) := by decide +kernel
theorem dX6_readWay_56 : decode cX6_readWay 56 = .ok (.invokevirtual 130, 3) := by decide +kernel
theorem dX6_readWay_59 : decode cX6_readWay 59 = .ok (.goto 12, 3) := by decide +kernel
theorem dX6_readWay_62 : decode cX6_readWay 62 = .ok (.aload_n 0, 1) := by decide +kernel
theorem dX6_readWay_63 : decode cX6_readWay 63 = .ok (.iconst 4, 1) := by decide +kernel
theorem dX6_readWay_64 : decode cX6_readWay 64 = .ok (.aload_n 0, 1) := by decide +kernel
theorem dX6_readWay_65 : decode cX6_readWay 65 = .ok (.getfield 65, 3) := by decide +kernel
theorem dX6_readWay_68 : decode cX6_readWay 68 = .ok (.invokevirtual 68, 3) := by decide +kernel
theorem dX6_readWay_71 : decode cX6_readWay 71 = .ok (.return_, 1) := by decide +kernel
theorem dX4_open_0 : decode cX4_open 0 = .ok (.aload_n 0, 1) := by decide +kernel
theorem dX4_open_1 : decode cX4_open 1 = .ok (.iload_n 1, 1) := by decide +kernel
theorem dX4_open_2 : decode cX4_open 2 = .ok (.putfield 27, 3) := by decide +kernel
theorem dX4_open_5 : decode cX4_open 5 = .ok (.aload_n 0, 1) := by decide +kernel
theorem dX4_open_6 : decode cX4_open 6 = .ok (.getfield 15, 3) := by decide +kernel
theorem dX4_open_9 : decode cX4_open 9 = .ok (.iconst 0, 1) := by decide +kernel
theorem dX4_open_10 : decode cX4_open 10 = .ok (.iconst 0, 1) := by decide +kernel
theorem dX4_open_11 : decode cX4_open 11 = .ok (.iastore, 1) := by decide +kernel
theorem dX4_open_12 : decode cX4_open 12 = .ok (.aload_n 0, 1) := by decide +kernel
theorem dX4_open_13 : decode cX4_open 13 = .ok (.getfield 15, 3) := by decide +kernel
theorem dX4_open_16 : decode cX4_open 16 = .ok (.iconst 1, 1) := by decide +kernel
theorem dX4_open_17 : decode cX4_open 17 = .ok (.iload_n 1, 1) := by decide +kernel
theorem dX4_open_18 : decode cX4_open 18 = .ok (.iconst 1, 1) := by decide +kernel
theorem dX4_open_19 : decode cX4_open 19 = .ok (.isub, 1) := by decide +kernel
theorem dX4_open_20 : decode cX4_open 20 = .ok (.iastore, 1) := by decide +kernel
theorem dX4_open_21 : decode cX4_open 21 = .ok (.return_, 1) := by decide +kernel
theorem dX6_readFields_0 : decode cX6_readFields 0 = .ok (.aload_n 0, 1) := by decide +kernel
theorem dX6_readFields_1 : decode cX6_readFields 1 = .ok (.iconst 2, 1) := by decide +kernel
theorem dX6_readFields_2 : decode cX6_readFields 2 = .ok (.bipush 9, 2) := by decide +kernel
theorem dX6_readFields_4 : decode cX6_readFields 4 = .ok (.invokevirtual 119, 3) := by decide +kernel
theorem dX6_readFields_7 : decode cX6_readFields 7 = .ok (.istore_n 1, 1) := by decide +kernel
theorem dX6_readFields_8 : decode cX6_readFields 8 = .ok (.aload_n 0, 1) := by decide +kernel
theorem dX6_readFields_9 : decode cX6_readFields 9 = .ok (.getfield 38, 3) := by decide +kernel
theorem dX6_readFields_12 : decode cX6_readFields 12 = .ok (.ifCond .ne 11, 3) := by decide +kernel
theorem dX6_readFields_15 : decode cX6_readFields 15 = .ok (.aload_n 0, 1) := by decide +kernel
theorem dX6_readFields_16 : decode cX6_readFields 16 = .ok (.getfield 12, 3) := by decide +kernel
theorem dX6_readFields_19 : decode cX6_readFields 19 = .ok (.iload_n 1, 1) := by decide +kernel
theorem dX6_readFields_20 : decode cX6_readFields 20 = .ok (.invokevirtual 122, 3) := by decide +kernel
theorem dX6_readFields_23 : decode cX6_readFields 23 = .ok (.return_, 1) := by decide +kernel
theorem dX6_readClause_0 : decode cX6_readClause 0 = .ok (.aload_n 0, 1) := by decide +kernel
theorem dX6_readClause_1 : decode cX6_readClause 1 = .ok (.invokevirtual 58, 3) := by decide +kernel
theorem dX6_readClause_4 : decode cX6_readClause 4 = .ok (.istore_n 1, 1) := by decide +kernel
theorem dX6_readClause_5 : decode cX6_readClause 5 = .ok (.aload_n 0, 1) := by decide +kernel
theorem dX6_readClause_6 : decode cX6_readClause 6 = .ok (.getfield 12, 3) := by decide +kernel
theorem dX6_readClause_9 : decode cX6_readClause 9 = .ok (.getfield 62, 3) := by decide +kernel
theorem dX6_readClause_12 : decode cX6_readClause 12 = .ok (.ifCond .le 7, 3) := by decide +kernel
theorem dX6_readClause_15 : decode cX6_readClause 15 = .ok (.iconst 1, 1) := by decide +kernel
theorem dX6_readClause_16 : decode cX6_readClause 16 = .ok (.goto 4, 3) := by decide +kernel
theorem dX6_readClause_19 : decode cX6_readClause 19 = .ok (.iconst 0, 1) := by decide +kernel
theorem dX6_readClause_20 : decode cX6_readClause 20 = .ok (.istore_n 2, 1) := by decide +kernel
theorem dX6_readClause_21 : decode cX6_readClause 21 = .ok (.iload_n 1, 1) := by decide +kernel
theorem dX6_readClause_22 : decode cX6_readClause 22 = .ok (.ifCond .eq 12, 3) := by decide +kernel
theorem dX6_readClause_25 : decode cX6_readClause 25 = .ok (.iload_n 2, 1) := by decide +kernel
theorem dX6_readClause_26 : decode cX6_readClause 26 = .ok (.ifCond .ne 20, 3) := by decide +kernel
theorem dX6_readClause_29 : decode cX6_readClause 29 = .ok (.iload_n 1, 1) := by decide +kernel
theorem dX6_readClause_30 : decode cX6_readClause 30 = .ok (.iconst 1, 1) := by decide +kernel
theorem dX6_readClause_31 : decode cX6_readClause 31 = .ok (.if_icmp .eq 15, 3) := by decide +kernel
theorem dX6_readClause_34 : decode cX6_readClause 34 = .ok (.aload_n 0, 1) := by decide +kernel
theorem dX6_readClause_35 : decode cX6_readClause 35 = .ok (.iconst 1, 1) := by decide +kernel
theorem dX6_readClause_36 : decode cX6_readClause 36 = .ok (.aload_n 0, 1) := by decide +kernel
theorem dX6_readClause_37 : decode cX6_readClause 37 = .ok (.getfield 65, 3) := by decide +kernel
theorem dX6_readClause_40 : decode cX6_readClause 40 = .ok (.invokevirtual 68, 3) := by decide +kernel
theorem dX6_readClause_43 : decode cX6_readClause 43 = .ok (.goto 76, 3) := by decide +kernel
theorem dX6_readClause_46 : decode cX6_readClause 46 = .ok (.iload_n 2, 1) := by decide +kernel
theorem dX6_readClause_47 : decode cX6_readClause 47 = .ok (.ifCond .eq 8, 3) := by decide +kernel
theorem dX6_readClause_50 : decode cX6_readClause 50 = .ok (.iload_n 1, 1) := by decide +kernel
theorem dX6_readClause_51 : decode cX6_readClause 51 = .ok (.iconst 1, 1) := by decide +kernel
theorem dX6_readClause_52 : decode cX6_readClause 52 = .ok (.if_icmp .eq 15, 3) := by decide +kernel
theorem dX6_readClause_55 : decode cX6_readClause 55 = .ok (.aload_n 0, 1) := by decide +kernel
theorem dX6_readClause_56 : decode cX6_readClause 56 = .ok (.getfield 44, 3) := by decide +kernel
theorem dX6_readClause_59 : decode cX6_readClause 59 = .ok (.ifCond .eq 20, 3) := by decide +kernel
theorem dX6_readClause_62 : decode cX6_readClause 62 = .ok (.iload_n 1, 1) := by decide +kernel
theorem dX6_readClause_63 : decode cX6_readClause 63 = .ok (.iconst 3, 1) := by decide +kernel
theorem dX6_readClause_64 : decode cX6_readClause 64 = .ok (.if_icmp .ne 15, 3) := by decide +kernel
theorem dX6_readClause_67 : decode cX6_readClause 67 = .ok (.aload_n 0, 1) := by decide +kernel
theorem dX6_readClause_68 : decode cX6_readClause 68 = .ok (.iconst 3, 1) := by decide +kernel
theorem dX6_readClause_69 : decode cX6_readClause 69 = .ok (.aload_n 0, 1) := by decide +kernel
theorem dX6_readClause_70 : decode cX6_readClause 70 = .ok (.getfield 65, 3) := by decide +kernel
theorem dX6_readClause_73 : decode cX6_readClause 73 = .ok (.invokevirtual 68, 3) := by decide +kernel
theorem dX6_readClause_76 : decode cX6_readClause 76 = .ok (.goto 43, 3) := by decide +kernel
theorem dX6_readClause_79 : decode cX6_readClause 79 = .ok (.iload_n 1, 1) := by decide +kernel
theorem dX6_readClause_80 : decode cX6_readClause 80 = .ok (.iconst 1, 1) := by decide +kernel
theorem dX6_readClause_81 : decode cX6_readClause 81 = .ok (.if_icmp .ne 10, 3) := by decide +kernel
theorem dX6_readClause_84 : decode cX6_readClause 84 = .ok (.aload_n 0, 1) := by decide +kernel
theorem dX6_readClause_85 : decode cX6_readClause 85 = .ok (.invokevirtual 72, 3) := by decide +kernel
theorem dX6_readClause_88 : decode cX6_readClause 88 = .ok (.goto 31, 3) := by decide +kernel
theorem dX6_readClause_91 : decode cX6_readClause 91 = .ok (.iload_n 1, 1) := by decide +kernel
theorem dX6_readClause_92 : decode cX6_readClause 92 = .ok (.iconst 2, 1) := by decide +kernel
theorem dX6_readClause_93 : decode cX6_readClause 93 = .ok (.if_icmp .ne 10, 3) := by decide +kernel
theorem dX6_readClause_96 : decode cX6_readClause 96 = .ok (.aload_n 0, 1) := by decide +kernel
theorem dX6_readClause_97 : decode cX6_readClause 97 = .ok (.invokevirtual 75, 3) := by decide +kernel
theorem dX6_readClause_100 : decode cX6_readClause 100 = .ok (.goto 19, 3) := by decide +kernel
theorem dX6_readClause_103 : decode cX6_readClause 103 = .ok (.iload_n 1, 1) := by decide +kernel
theorem dX6_readClause_104 : decode cX6_readClause 104 = .ok (.iconst 3, 1) := by decide +kernel
theorem dX6_readClause_105 : decode cX6_readClause 105 = .ok (.if_icmp .ne 10, 3) := by decide +kernel
theorem dX6_readClause_108 : decode cX6_readClause 108 = .ok (.aload_n 0, 1) := by decide +kernel
theorem dX6_readClause_109 : decode cX6_readClause 109 = .ok (.invokevirtual 78, 3) := by decide +kernel
theorem dX6_readClause_112 : decode cX6_readClause 112 = .ok (.goto 7, 3) := by decide +kernel
theorem dX6_readClause_115 : decode cX6_readClause 115 = .ok (.aload_n 0, 1) := by decide +kernel
theorem dX6_readClause_116 : decode cX6_readClause 116 = .ok (.invokevirtual 81, 3) := by decide +kernel
theorem dX6_readClause_119 : decode cX6_readClause 119 = .ok (.aload_n 0, 1) := by decide +kernel
theorem dX6_readClause_120 : decode cX6_readClause 120 = .ok (.invokevirtual 84, 3) := by decide +kernel
theorem dX6_readClause_123 : decode cX6_readClause 123 = .ok (.return_, 1) := by decide +kernel
theorem dX6_read_0 : decode cX6_read 0 = .ok (.aload_n 0, 1) := by decide +kernel
theorem dX6_read_1 : decode cX6_read 1 = .ok (.getfield 12, 3) := by decide +kernel
theorem dX6_read_4 : decode cX6_read 4 = .ok (.invokevirtual 35, 3) := by decide +kernel
theorem dX6_read_7 : decode cX6_read 7 = .ok (.aload_n 0, 1) := by decide +kernel
theorem dX6_read_8 : decode cX6_read 8 = .ok (.iconst 0, 1) := by decide +kernel
theorem dX6_read_9 : decode cX6_read 9 = .ok (.putfield 38, 3) := by decide +kernel
theorem dX6_read_12 : decode cX6_read 12 = .ok (.aload_n 0, 1) := by decide +kernel
theorem dX6_read_13 : decode cX6_read 13 = .ok (.iconst (-1), 1) := by decide +kernel
theorem dX6_read_14 : decode cX6_read 14 = .ok (.putfield 18, 3) := by decide +kernel
theorem dX6_read_17 : decode cX6_read 17 = .ok (.aload_n 0, 1) := by decide +kernel
theorem dX6_read_18 : decode cX6_read 18 = .ok (.iconst 0, 1) := by decide +kernel
theorem dX6_read_19 : decode cX6_read 19 = .ok (.putfield 41, 3) := by decide +kernel
theorem dX6_read_22 : decode cX6_read 22 = .ok (.aload_n 0, 1) := by decide +kernel
theorem dX6_read_23 : decode cX6_read 23 = .ok (.iconst 0, 1) := by decide +kernel
theorem dX6_read_24 : decode cX6_read 24 = .ok (.putfield 44, 3) := by decide +kernel
theorem dX6_read_27 : decode cX6_read 27 = .ok (.aload_n 0, 1) := by decide +kernel
theorem dX6_read_28 : decode cX6_read 28 = .ok (.invokevirtual 48, 3) := by decide +kernel
theorem dX6_read_31 : decode cX6_read 31 = .ok (.iconst 0, 1) := by decide +kernel
theorem dX6_read_32 : decode cX6_read 32 = .ok (.istore_n 1, 1) := by decide +kernel
theorem dX6_read_33 : decode cX6_read 33 = .ok (.iload_n 1, 1) := by decide +kernel
theorem dX6_read_34 : decode cX6_read 34 = .ok (.sipush 400, 3) := by decide +kernel
theorem dX6_read_37 : decode cX6_read 37 = .ok (.if_icmp .ge 31, 3) := by decide +kernel
theorem dX6_read_40 : decode cX6_read 40 = .ok (.aload_n 0, 1) := by decide +kernel
theorem dX6_read_41 : decode cX6_read 41 = .ok (.getfield 41, 3) := by decide +kernel
theorem dX6_read_44 : decode cX6_read 44 = .ok (.aload_n 0, 1) := by decide +kernel
theorem dX6_read_45 : decode cX6_read 45 = .ok (.getfield 26, 3) := by decide +kernel
theorem dX6_read_48 : decode cX6_read 48 = .ok (.if_icmp .ge 20, 3) := by decide +kernel
theorem dX6_read_51 : decode cX6_read 51 = .ok (.aload_n 0, 1) := by decide +kernel
theorem dX6_read_52 : decode cX6_read 52 = .ok (.getfield 38, 3) := by decide +kernel
theorem dX6_read_55 : decode cX6_read 55 = .ok (.ifCond .ne 13, 3) := by decide +kernel
theorem dX6_read_58 : decode cX6_read 58 = .ok (.aload_n 0, 1) := by decide +kernel
theorem dX6_read_59 : decode cX6_read 59 = .ok (.invokevirtual 51, 3) := by decide +kernel
theorem dX6_read_62 : decode cX6_read 62 = .ok (.iinc 1 1, 3) := by decide +kernel
theorem dX6_read_65 : decode cX6_read 65 = .ok (.goto (-32), 3) := by decide +kernel
theorem dX6_read_68 : decode cX6_read 68 = .ok (.aload_n 0, 1) := by decide +kernel
theorem dX6_read_69 : decode cX6_read 69 = .ok (.iconst 0, 1) := by decide +kernel
theorem dX6_read_70 : decode cX6_read 70 = .ok (.putfield 26, 3) := by decide +kernel
theorem dX6_read_73 : decode cX6_read 73 = .ok (.return_, 1) := by decide +kernel
theorem dX10_copyRow_0 : decode cX10_copyRow 0 = .ok (.iconst 0, 1) := by decide +kernel
theorem dX10_copyRow_1 : decode cX10_copyRow 1 = .ok (.istore_n 2, 1) := by decide +kernel
theorem dX10_copyRow_2 : decode cX10_copyRow 2 = .ok (.iload_n 2, 1) := by decide +kernel
theorem dX10_copyRow_3 : decode cX10_copyRow 3 = .ok (.aload_n 0, 1) := by decide +kernel
theorem dX10_copyRow_4 : decode cX10_copyRow 4 = .ok (.arraylength, 1) := by decide +kernel
theorem dX10_copyRow_5 : decode cX10_copyRow 5 = .ok (.if_icmp .ge 21, 3) := by decide +kernel
theorem dX10_copyRow_8 : decode cX10_copyRow 8 = .ok (.iload_n 2, 1) := by decide +kernel
theorem dX10_copyRow_9 : decode cX10_copyRow 9 = .ok (.aload_n 1, 1) := by decide +kernel
theorem dX10_copyRow_10 : decode cX10_copyRow 10 = .ok (.arraylength, 1) := by decide +kernel
theorem dX10_copyRow_11 : decode cX10_copyRow 11 = .ok (.if_icmp .ge 15, 3) := by decide +kernel
theorem dX10_copyRow_14 : decode cX10_copyRow 14 = .ok (.aload_n 1, 1) := by decide +kernel
theorem dX10_copyRow_15 : decode cX10_copyRow 15 = .ok (.iload_n 2, 1) := by decide +kernel
theorem dX10_copyRow_16 : decode cX10_copyRow 16 = .ok (.aload_n 0, 1) := by decide +kernel
theorem dX10_copyRow_17 : decode cX10_copyRow 17 = .ok (.iload_n 2, 1) := by decide +kernel
theorem dX10_copyRow_18 : decode cX10_copyRow 18 = .ok (.iaload, 1) := by decide +kernel
theorem dX10_copyRow_19 : decode cX10_copyRow 19 = .ok (.iastore, 1) := by decide +kernel
theorem dX10_copyRow_20 : decode cX10_copyRow 20 = .ok (.iinc 2 1, 3) := by decide +kernel
theorem dX10_copyRow_23 : decode cX10_copyRow 23 = .ok (.goto (-21), 3) := by decide +kernel
theorem dX10_copyRow_26 : decode cX10_copyRow 26 = .ok (.return_, 1) := by decide +kernel
theorem dX4_become_0 : decode cX4_become 0 = .ok (.aload_n 0, 1) := by decide +kernel
theorem dX4_become_1 : decode cX4_become 1 = .ok (.aload_n 1, 1) := by decide +kernel
theorem dX4_become_2 : decode cX4_become 2 = .ok (.getfield 27, 3) := by decide +kernel
theorem dX4_become_5 : decode cX4_become 5 = .ok (.putfield 27, 3) := by decide +kernel
theorem dX4_become_8 : decode cX4_become 8 = .ok (.aload_n 1, 1) := by decide +kernel
theorem dX4_become_9 : decode cX4_become 9 = .ok (.getfield 9, 3) := by decide +kernel
theorem dX4_become_12 : decode cX4_become 12 = .ok (.aload_n 0, 1) := by decide +kernel
theorem dX4_become_13 : decode cX4_become 13 = .ok (.getfield 9, 3) := by decide +kernel
theorem dX4_become_16 : decode cX4_become 16 = .ok (.invokestatic 35, 3) := by decide +kernel
theorem dX4_become_19 : decode cX4_become 19 = .ok (.aload_n 1, 1) := by decide +kernel
theorem dX4_become_20 : decode cX4_become 20 = .ok (.getfield 15, 3) := by decide +kernel
theorem dX4_become_23 : decode cX4_become 23 = .ok (.aload_n 0, 1) := by decide +kernel
theorem dX4_become_24 : decode cX4_become 24 = .ok (.getfield 15, 3) := by decide +kernel
theorem dX4_become_27 : decode cX4_become 27 = .ok (.invokestatic 35, 3) := by decide +kernel
theorem dX4_become_30 : decode cX4_become 30 = .ok (.aload_n 1, 1) := by decide +kernel
theorem dX4_become_31 : decode cX4_become 31 = .ok (.getfield 18, 3) := by decide +kernel
theorem dX4_become_34 : decode cX4_become 34 = .ok (.aload_n 0, 1) := by decide +kernel
theorem dX4_become_35 : decode cX4_become 35 = .ok (.getfield 18, 3) := by decide +kernel
theorem dX4_become_38 : decode cX4_become 38 = .ok (.invokestatic 35, 3) := by decide +kernel
theorem dX4_become_41 : decode cX4_become 41 = .ok (.aload_n 1, 1) := by decide +kernel
theorem dX4_become_42 : decode cX4_become 42 = .ok (.getfield 21, 3) := by decide +kernel
theorem dX4_become_45 : decode cX4_become 45 = .ok (.aload_n 0, 1) := by decide +kernel
theorem dX4_become_46 : decode cX4_become 46 = .ok (.getfield 21, 3) := by decide +kernel
theorem dX4_become_49 : decode cX4_become 49 = .ok (.invokestatic 35, 3) := by decide +kernel
theorem dX4_become_52 : decode cX4_become 52 = .ok (.return_, 1) := by decide +kernel
theorem dX1_toStart_0 : decode cX1_toStart 0 = .ok (.aload_n 1, 1) := by decide +kernel
theorem dX1_toStart_1 : decode cX1_toStart 1 = .ok (.aload_n 0, 1) := by decide +kernel
theorem dX1_toStart_2 : decode cX1_toStart 2 = .ok (.getfield 9, 3) := by decide +kernel
theorem dX1_toStart_5 : decode cX1_toStart 5 = .ok (.invokestatic 28, 3) := by decide +kernel
theorem dX1_toStart_8 : decode cX1_toStart 8 = .ok (.aload_n 0, 1) := by decide +kernel
theorem dX1_toStart_9 : decode cX1_toStart 9 = .ok (.iconst 0, 1) := by decide +kernel
theorem dX1_toStart_10 : decode cX1_toStart 10 = .ok (.putfield 32, 3) := by decide +kernel
theorem dX1_toStart_13 : decode cX1_toStart 13 = .ok (.return_, 1) := by decide +kernel
theorem dX8_forget_0 : decode cX8_forget 0 = .ok (.aload_n 0, 1) := by decide +kernel
theorem dX8_forget_1 : decode cX8_forget 1 = .ok (.iconst 0, 1) := by decide +kernel
theorem dX8_forget_2 : decode cX8_forget 2 = .ok (.putfield 54, 3) := by decide +kernel
theorem dX8_forget_5 : decode cX8_forget 5 = .ok (.return_, 1) := by decide +kernel
theorem dX0_forget_0 : decode cX0_forget 0 = .ok (.aload_n 0, 1) := by decide +kernel
theorem dX0_forget_1 : decode cX0_forget 1 = .ok (.getfield 25, 3) := by decide +kernel
theorem dX0_forget_4 : decode cX0_forget 4 = .ok (.iconst 0, 1) := by decide +kernel
theorem dX0_forget_5 : decode cX0_forget 5 = .ok (.invokestatic 36, 3) := by decide +kernel
theorem dX0_forget_8 : decode cX0_forget 8 = .ok (.return_, 1) := by decide +kernel
theorem dX10_net_0 : decode cX10_net 0 = .ok (.aload_n 0, 1) := by decide +kernel
theorem dX10_net_1 : decode cX10_net 1 = .ok (.getfield 19, 3) := by decide +kernel
theorem dX10_net_4 : decode cX10_net 4 = .ok (.invokevirtual 105, 3) := by decide +kernel
theorem dX10_net_7 : decode cX10_net 7 = .ok (.aload_n 0, 1) := by decide +kernel
theorem dX10_net_8 : decode cX10_net 8 = .ok (.getfield 19, 3) := by decide +kernel
theorem dX10_net_11 : decode cX10_net 11 = .ok (.getfield 108, 3) := by decide +kernel
theorem dX10_net_14 : decode cX10_net 14 = .ok (.ifCond .eq 14, 3) := by decide +kernel
theorem dX10_net_17 : decode cX10_net 17 = .ok (.bipush (-10), 2) := by decide +kernel
theorem dX10_net_19 : decode cX10_net 19 = .ok (.aload_n 0, 1) := by decide +kernel
theorem dX10_net_20 : decode cX10_net 20 = .ok (.getfield 19, 3) := by decide +kernel
theorem dX10_net_23 : decode cX10_net 23 = .ok (.getfield 108, 3) := by decide +kernel
theorem dX10_net_26 : decode cX10_net 26 = .ok (.isub, 1) := by decide +kernel
theorem dX10_net_27 : decode cX10_net 27 = .ok (.ireturn, 1) := by decide +kernel
theorem dX10_net_28 : decode cX10_net 28 = .ok (.aload_n 0, 1) := by decide +kernel
theorem dX10_net_29 : decode cX10_net 29 = .ok (.getfield 10, 3) := by decide +kernel
theorem dX10_net_32 : decode cX10_net 32 = .ok (.aload_n 0, 1) := by decide +kernel
theorem dX10_net_33 : decode cX10_net 33 = .ok (.getfield 19, 3) := by decide +kernel
theorem dX10_net_36 : decode cX10_net 36 = .ok (.getfield 111, 3) := by decide +kernel
theorem dX10_net_39 : decode cX10_net 39 = .ok (.invokevirtual 114, 3) := by decide +kernel
theorem dX10_net_42 : decode cX10_net 42 = .ok (.aload_n 0, 1) := by decide +kernel
theorem dX10_net_43 : decode cX10_net 43 = .ok (.getfield 60, 3) := by decide +kernel
theorem dX10_net_46 : decode cX10_net 46 = .ok (.aload_n 0, 1) := by decide +kernel
theorem dX10_net_47 : decode cX10_net 47 = .ok (.getfield 10, 3) := by decide +kernel
theorem dX10_net_50 : decode cX10_net 50 = .ok (.getfield 117, 3) := by decide +kernel
theorem dX10_net_53 : decode cX10_net 53 = .ok (.invokevirtual 120, 3) := by decide +kernel
theorem dX10_net_56 : decode cX10_net 56 = .ok (.aload_n 0, 1) := by decide +kernel
theorem dX10_net_57 : decode cX10_net 57 = .ok (.getfield 10, 3) := by decide +kernel
theorem dX10_net_60 : decode cX10_net 60 = .ok (.getfield 117, 3) := by decide +kernel
theorem dX10_net_63 : decode cX10_net 63 = .ok (.aload_n 0, 1) := by decide +kernel
theorem dX10_net_64 : decode cX10_net 64 = .ok (.getfield 84, 3) := by decide +kernel
theorem dX10_net_67 : decode cX10_net 67 = .ok (.invokestatic 124, 3) := by decide +kernel
theorem dX10_net_70 : decode cX10_net 70 = .ok (.aload_n 0, 1) := by decide +kernel
theorem dX10_net_71 : decode cX10_net 71 = .ok (.getfield 73, 3) := by decide +kernel
theorem dX10_net_74 : decode cX10_net 74 = .ok (.iconst 0, 1) := by decide +kernel
theorem dX10_net_75 : decode cX10_net 75 = .ok (.putfield 128, 3) := by decide +kernel
theorem dX10_net_78 : decode cX10_net 78 = .ok (.aload_n 0, 1) := by decide +kernel
theorem dX10_net_79 : decode cX10_net 79 = .ok (.getfield 80, 3) := by decide +kernel
theorem dX10_net_82 : decode cX10_net 82 = .ok (.iconst 0, 1) := by decide +kernel
theorem dX10_net_83 : decode cX10_net 83 = .ok (.putfield 131, 3) := by decide +kernel
theorem dX10_net_86 : decode cX10_net 86 = .ok (.aload_n 0, 1) := by decide +kernel
theorem dX10_net_87 : decode cX10_net 87 = .ok (.getfield 64, 3) := by decide +kernel
theorem dX10_net_90 : decode cX10_net 90 = .ok (.iconst 0, 1) := by decide +kernel
theorem dX10_net_91 : decode cX10_net 91 = .ok (.putfield 132, 3) := by decide +kernel
theorem dX10_net_94 : decode cX10_net 94 = .ok (.aload_n 0, 1) := by decide +kernel
theorem dX10_net_95 : decode cX10_net 95 = .ok (.getfield 67, 3) := by decide +kernel
theorem dX10_net_98 : decode cX10_net 98 = .ok (.iconst 0, 1) := by decide +kernel
theorem dX10_net_99 : decode cX10_net 99 = .ok (.putfield 132, 3) := by decide +kernel
theorem dX10_net_102 : decode cX10_net 102 = .ok (.aload_n 0, 1) := by decide +kernel
theorem dX10_net_103 : decode cX10_net 103 = .ok (.getfield 44, 3) := by decide +kernel
theorem dX10_net_106 : decode cX10_net 106 = .ok (.invokevirtual 136, 3) := by decide +kernel
theorem dX10_net_109 : decode cX10_net 109 = .ok (.aload_n 0, 1) := by decide +kernel
theorem dX10_net_110 : decode cX10_net 110 = .ok (.getfield 53, 3) := by decide +kernel
theorem dX10_net_113 : decode cX10_net 113 = .ok (.invokevirtual 139, 3) := by decide +kernel
theorem dX10_net_116 : decode cX10_net 116 = .ok (.aload_n 0, 1) := by decide +kernel
theorem dX10_net_117 : decode cX10_net 117 = .ok (.getfield 10, 3) := by decide +kernel
theorem dX10_net_120 : decode cX10_net 120 = .ok (.getfield 140, 3) := by decide +kernel
theorem dX10_net_123 : decode cX10_net 123 = .ok (.iconst 0, 1) := by decide +kernel
theorem dX10_net_124 : decode cX10_net 124 = .ok (.iaload, 1) := by decide +kernel
theorem dX10_net_125 : decode cX10_net 125 = .ok (.aload_n 0, 1) := by decide +kernel
theorem dX10_net_126 : decode cX10_net 126 = .ok (.getfield 10, 3) := by decide +kernel
theorem dX10_net_129 : decode cX10_net 129 = .ok (.getfield 140, 3) := by decide +kernel
theorem dX10_net_132 : decode cX10_net 132 = .ok (.iconst 1, 1) := by decide +kernel
theorem dX10_net_133 : decode cX10_net 133 = .ok (.iaload, 1) := by decide +kernel
theorem dX10_net_134 : decode cX10_net 134 = .ok (.iadd, 1) := by decide +kernel
theorem dX10_net_135 : decode cX10_net 135 = .ok (.ireturn, 1) := by decide +kernel
theorem dX10_fault_0 : decode cX10_fault 0 = .ok (.aload_n 0, 1) := by decide +kernel
theorem dX10_fault_1 : decode cX10_fault 1 = .ok (.getfield 19, 3) := by decide +kernel
theorem dX10_fault_4 : decode cX10_fault 4 = .ok (.getfield 143, 3) := by decide +kernel
theorem dX10_fault_7 : decode cX10_fault 7 = .ok (.ireturn, 1) := by decide +kernel
theorem dX10_sideOf_0 : decode cX10_sideOf 0 = .ok (.iload_n 0, 1) := by decide +kernel
theorem dX10_sideOf_1 : decode cX10_sideOf 1 = .ok (.iconst 3, 1) := by decide +kernel
