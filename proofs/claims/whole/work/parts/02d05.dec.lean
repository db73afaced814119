theorem dX11_feed_44 : decode cX11_feed 44 = .ok (.aload_n 0, 1) := by decide +kernel
theorem dX11_feed_45 : decode cX11_feed 45 = .ok (.getfield 153, 3) := by decide +kernel
theorem dX11_feed_48 : decode cX11_feed 48 = .ok (.lload_n 2, 1) := by decide +kernel
theorem dX11_feed_49 : decode cX11_feed 49 = .ok (.bipush 8, 2) := by decide +kernel
theorem dX11_feed_51 : decode cX11_feed 51 = .ok (.iload 4, 2) := by decide +kernel
theorem dX11_feed_53 : decode cX11_feed 53 = .ok (.imul, 1) := by decide +kernel
theorem dX11_feed_54 : decode cX11_feed 54 = .ok (.lshr, 1) := by decide +kernel
theorem dX11_feed_55 : decode cX11_feed 55 = .ok (.ldc2_w 157, 3) := by decide +kernel
theorem dX11_feed_58 : decode cX11_feed 58 = .ok (.land, 1) := by decide +kernel
theorem dX11_feed_59 : decode cX11_feed 59 = .ok (.l2i, 1) := by decide +kernel
theorem dX11_feed_60 : decode cX11_feed 60 = .ok (.iastore, 1) := by decide +kernel
theorem dX11_feed_61 : decode cX11_feed 61 = .ok (.aload_n 0, 1) := by decide +kernel
theorem dX11_feed_62 : decode cX11_feed 62 = .ok (.dup, 1) := by decide +kernel
theorem dX11_feed_63 : decode cX11_feed 63 = .ok (.getfield 153, 3) := by decide +kernel
theorem dX11_feed_66 : decode cX11_feed 66 = .ok (.iconst 1, 1) := by decide +kernel
theorem dX11_feed_67 : decode cX11_feed 67 = .ok (.iadd, 1) := by decide +kernel
theorem dX11_feed_68 : decode cX11_feed 68 = .ok (.putfield 153, 3) := by decide +kernel
theorem dX11_feed_71 : decode cX11_feed 71 = .ok (.iinc 4 (-1), 3) := by decide +kernel
theorem dX11_feed_74 : decode cX11_feed 74 = .ok (.goto (-39), 3) := by decide +kernel
theorem dX11_feed_77 : decode cX11_feed 77 = .ok (.aload_n 0, 1) := by decide +kernel
theorem dX11_feed_78 : decode cX11_feed 78 = .ok (.getfield 153, 3) := by decide +kernel
theorem dX11_feed_81 : decode cX11_feed 81 = .ok (.ireturn, 1) := by decide +kernel
theorem dX11_here_0 : decode cX11_here 0 = .ok (.aload_n 0, 1) := by decide +kernel
theorem dX11_here_1 : decode cX11_here 1 = .ok (.getfield 159, 3) := by decide +kernel
theorem dX11_here_4 : decode cX11_here 4 = .ok (.aload_n 0, 1) := by decide +kernel
theorem dX11_here_5 : decode cX11_here 5 = .ok (.getfield 153, 3) := by decide +kernel
theorem dX11_here_8 : decode cX11_here 8 = .ok (.if_icmp .ge 30, 3) := by decide +kernel
theorem dX11_here_11 : decode cX11_here 11 = .ok (.aload_n 0, 1) := by decide +kernel
theorem dX11_here_12 : decode cX11_here 12 = .ok (.getfield 37, 3) := by decide +kernel
theorem dX11_here_15 : decode cX11_here 15 = .ok (.aload_n 0, 1) := by decide +kernel
theorem dX11_here_16 : decode cX11_here 16 = .ok (.getfield 159, 3) := by decide +kernel
theorem dX11_here_19 : decode cX11_here 19 = .ok (.iaload, 1) := by decide +kernel
theorem dX11_here_20 : decode cX11_here 20 = .ok (.bipush 32, 2) := by decide +kernel
theorem dX11_here_22 : decode cX11_here 22 = .ok (.if_icmp .ne 16, 3) := by decide +kernel
theorem dX11_here_25 : decode cX11_here 25 = .ok (.aload_n 0, 1) := by decide +kernel
theorem dX11_here_26 : decode cX11_here 26 = .ok (.dup, 1) := by decide +kernel
theorem dX11_here_27 : decode cX11_here 27 = .ok (.getfield 159, 3) := by decide +kernel
theorem dX11_here_30 : decode cX11_here 30 = .ok (.iconst 1, 1) := by decide +kernel
theorem dX11_here_31 : decode cX11_here 31 = .ok (.iadd, 1) := by decide +kernel
theorem dX11_here_32 : decode cX11_here 32 = .ok (.putfield 159, 3) := by decide +kernel
theorem dX11_here_35 : decode cX11_here 35 = .ok (.goto (-35), 3) := by decide +kernel
theorem dX11_here_38 : decode cX11_here 38 = .ok (.aload_n 0, 1) := by decide +kernel
theorem dX11_here_39 : decode cX11_here 39 = .ok (.getfield 159, 3) := by decide +kernel
theorem dX11_here_42 : decode cX11_here 42 = .ok (.aload_n 0, 1) := by decide +kernel
theorem dX11_here_43 : decode cX11_here 43 = .ok (.getfield 153, 3) := by decide +kernel
theorem dX11_here_46 : decode cX11_here 46 = .ok (.if_icmp .ge 15, 3) := by decide +kernel
theorem dX11_here_49 : decode cX11_here 49 = .ok (.aload_n 0, 1) := by decide +kernel
theorem dX11_here_50 : decode cX11_here 50 = .ok (.getfield 37, 3) := by decide +kernel
theorem dX11_here_53 : decode cX11_here 53 = .ok (.aload_n 0, 1) := by decide +kernel
theorem dX11_here_54 : decode cX11_here 54 = .ok (.getfield 159, 3) := by decide +kernel
theorem dX11_here_57 : decode cX11_here 57 = .ok (.iaload, 1) := by decide +kernel
theorem dX11_here_58 : decode cX11_here 58 = .ok (.goto 4, 3) := by decide +kernel
theorem dX11_here_61 : decode cX11_here 61 = .ok (.iconst (-1), 1) := by decide +kernel
theorem dX11_here_62 : decode cX11_here 62 = .ok (.ireturn, 1) := by decide +kernel
theorem dX11_readWord_0 : decode cX11_readWord 0 = .ok (.aload_n 0, 1) := by decide +kernel
theorem dX11_readWord_1 : decode cX11_readWord 1 = .ok (.invokevirtual 162, 3) := by decide +kernel
theorem dX11_readWord_4 : decode cX11_readWord 4 = .ok (.istore_n 1, 1) := by decide +kernel
theorem dX11_readWord_5 : decode cX11_readWord 5 = .ok (.aload_n 0, 1) := by decide +kernel
theorem dX11_readWord_6 : decode cX11_readWord 6 = .ok (.lconst 0, 1) := by decide +kernel
theorem dX11_readWord_7 : decode cX11_readWord 7 = .ok (.putfield 166, 3) := by decide +kernel
theorem dX11_readWord_10 : decode cX11_readWord 10 = .ok (.aload_n 0, 1) := by decide +kernel
theorem dX11_readWord_11 : decode cX11_readWord 11 = .ok (.aload_n 0, 1) := by decide +kernel
theorem dX11_readWord_12 : decode cX11_readWord 12 = .ok (.getfield 159, 3) := by decide +kernel
theorem dX11_readWord_15 : decode cX11_readWord 15 = .ok (.putfield 170, 3) := by decide +kernel
theorem dX11_readWord_18 : decode cX11_readWord 18 = .ok (.aload_n 0, 1) := by decide +kernel
theorem dX11_readWord_19 : decode cX11_readWord 19 = .ok (.getfield 170, 3) := by decide +kernel
theorem dX11_readWord_22 : decode cX11_readWord 22 = .ok (.aload_n 0, 1) := by decide +kernel
theorem dX11_readWord_23 : decode cX11_readWord 23 = .ok (.getfield 153, 3) := by decide +kernel
theorem dX11_readWord_26 : decode cX11_readWord 26 = .ok (.if_icmp .ge 82, 3) := by decide +kernel
theorem dX11_readWord_29 : decode cX11_readWord 29 = .ok (.aload_n 0, 1) := by decide +kernel
theorem dX11_readWord_30 : decode cX11_readWord 30 = .ok (.getfield 37, 3) := by decide +kernel
theorem dX11_readWord_33 : decode cX11_readWord 33 = .ok (.aload_n 0, 1) := by decide +kernel
theorem dX11_readWord_34 : decode cX11_readWord 34 = .ok (.getfield 170, 3) := by decide +kernel
theorem dX11_readWord_37 : decode cX11_readWord 37 = .ok (.iaload, 1) := by decide +kernel
theorem dX11_readWord_38 : decode cX11_readWord 38 = .ok (.i2l, 1) := by decide +kernel
theorem dX11_readWord_39 : decode cX11_readWord 39 = .ok (.ldc2_w 173, 3) := by decide +kernel
theorem dX11_readWord_42 : decode cX11_readWord 42 = .ok (.ldc2_w 175, 3) := by decide +kernel
theorem dX11_readWord_45 : decode cX11_readWord 45 = .ok (.invokestatic 142, 3) := by decide +kernel
theorem dX11_readWord_48 : decode cX11_readWord 48 = .ok (.ifCond .eq 60, 3) := by decide +kernel
theorem dX11_readWord_51 : decode cX11_readWord 51 = .ok (.aload_n 0, 1) := by decide +kernel
theorem dX11_readWord_52 : decode cX11_readWord 52 = .ok (.aload_n 0, 1) := by decide +kernel
theorem dX11_readWord_53 : decode cX11_readWord 53 = .ok (.getfield 166, 3) := by decide +kernel
theorem dX11_readWord_56 : decode cX11_readWord 56 = .ok (.ldc2_w 177, 3) := by decide +kernel
theorem dX11_readWord_59 : decode cX11_readWord 59 = .ok (.lcmp, 1) := by decide +kernel
theorem dX11_readWord_60 : decode cX11_readWord 60 = .ok (.ifCond .le 9, 3) := by decide +kernel
theorem dX11_readWord_63 : decode cX11_readWord 63 = .ok (.ldc2_w 179, 3) := by decide +kernel
theorem dX11_readWord_66 : decode cX11_readWord 66 = .ok (.goto 26, 3) := by decide +kernel
theorem dX11_readWord_69 : decode cX11_readWord 69 = .ok (.ldc2_w 181, 3) := by decide +kernel
theorem dX11_readWord_72 : decode cX11_readWord 72 = .ok (.aload_n 0, 1) := by decide +kernel
theorem dX11_readWord_73 : decode cX11_readWord 73 = .ok (.getfield 166, 3) := by decide +kernel
theorem dX11_readWord_76 : decode cX11_readWord 76 = .ok (.lmul, 1) := by decide +kernel
theorem dX11_readWord_77 : decode cX11_readWord 77 = .ok (.aload_n 0, 1) := by decide +kernel
theorem dX11_readWord_78 : decode cX11_readWord 78 = .ok (.getfield 37, 3) := by decide +kernel
theorem dX11_readWord_81 : decode cX11_readWord 81 = .ok (.aload_n 0, 1) := by decide +kernel
theorem dX11_readWord_82 : decode cX11_readWord 82 = .ok (.getfield 170, 3) := by decide +kernel
theorem dX11_readWord_85 : decode cX11_readWord 85 = .ok (.iaload, 1) := by decide +kernel
theorem dX11_readWord_86 : decode cX11_readWord 86 = .ok (.i2l, 1) := by decide +kernel
theorem dX11_readWord_87 : decode cX11_readWord 87 = .ok (.ladd, 1) := by decide +kernel
theorem dX11_readWord_88 : decode cX11_readWord 88 = .ok (.ldc2_w 183, 3) := by decide +kernel
theorem dX11_readWord_91 : decode cX11_readWord 91 = .ok (.lsub, 1) := by decide +kernel
theorem dX11_readWord_92 : decode cX11_readWord 92 = .ok (.putfield 166, 3) := by decide +kernel
theorem dX11_readWord_95 : decode cX11_readWord 95 = .ok (.aload_n 0, 1) := by decide +kernel
theorem dX11_readWord_96 : decode cX11_readWord 96 = .ok (.dup, 1) := by decide +kernel
theorem dX11_readWord_97 : decode cX11_readWord 97 = .ok (.getfield 170, 3) := by decide +kernel
theorem dX11_readWord_100 : decode cX11_readWord 100 = .ok (.iconst 1, 1) := by decide +kernel
theorem dX11_readWord_101 : decode cX11_readWord 101 = .ok (.iadd, 1) := by decide +kernel
theorem dX11_readWord_102 : decode cX11_readWord 102 = .ok (.putfield 170, 3) := by decide +kernel
theorem dX11_readWord_105 : decode cX11_readWord 105 = .ok (.goto (-87), 3) := by decide +kernel
theorem dX11_readWord_108 : decode cX11_readWord 108 = .ok (.return_, 1) := by decide +kernel
theorem dX11_code_0 : decode cX11_code 0 = .ok (.ldc2_w 181, 3) := by decide +kernel
theorem dX11_code_3 : decode cX11_code 3 = .ok (.ldc2_w 181, 3) := by decide +kernel
theorem dX11_code_6 : decode cX11_code 6 = .ok (.iload_n 0, 1) := by decide +kernel
theorem dX11_code_7 : decode cX11_code 7 = .ok (.i2l, 1) := by decide +kernel
theorem dX11_code_8 : decode cX11_code 8 = .ok (.ldc2_w 183, 3) := by decide +kernel
theorem dX11_code_11 : decode cX11_code 11 = .ok (.lsub, 1) := by decide +kernel
theorem dX11_code_12 : decode cX11_code 12 = .ok (.lmul, 1) := by decide +kernel
theorem dX11_code_13 : decode cX11_code 13 = .ok (.iload_n 1, 1) := by decide +kernel
theorem dX11_code_14 : decode cX11_code 14 = .ok (.i2l, 1) := by decide +kernel
theorem dX11_code_15 : decode cX11_code 15 = .ok (.ladd, 1) := by decide +kernel
theorem dX11_code_16 : decode cX11_code 16 = .ok (.ldc2_w 183, 3) := by decide +kernel
theorem dX11_code_19 : decode cX11_code 19 = .ok (.lsub, 1) := by decide +kernel
theorem dX11_code_20 : decode cX11_code 20 = .ok (.lmul, 1) := by decide +kernel
theorem dX11_code_21 : decode cX11_code 21 = .ok (.iload_n 2, 1) := by decide +kernel
theorem dX11_code_22 : decode cX11_code 22 = .ok (.i2l, 1) := by decide +kernel
theorem dX11_code_23 : decode cX11_code 23 = .ok (.ladd, 1) := by decide +kernel
theorem dX11_code_24 : decode cX11_code 24 = .ok (.ldc2_w 183, 3) := by decide +kernel
theorem dX11_code_27 : decode cX11_code 27 = .ok (.lsub, 1) := by decide +kernel
theorem dX11_code_28 : decode cX11_code 28 = .ok (.lreturn, 1) := by decide +kernel
theorem dX11_fails_0 : decode cX11_fails 0 = .ok (.aload_n 0, 1) := by decide +kernel
theorem dX11_fails_1 : decode cX11_fails 1 = .ok (.iload_n 2, 1) := by decide +kernel
theorem dX11_fails_2 : decode cX11_fails 2 = .ok (.putfield 40, 3) := by decide +kernel
theorem dX11_fails_5 : decode cX11_fails 5 = .ok (.iload_n 1, 1) := by decide +kernel
theorem dX11_fails_6 : decode cX11_fails 6 = .ok (.ireturn, 1) := by decide +kernel
theorem dX11_takeNumber_0 : decode cX11_takeNumber 0 = .ok (.aload_n 0, 1) := by decide +kernel
theorem dX11_takeNumber_1 : decode cX11_takeNumber 1 = .ok (.invokevirtual 162, 3) := by decide +kernel
theorem dX11_takeNumber_4 : decode cX11_takeNumber 4 = .ok (.istore_n 3, 1) := by decide +kernel
theorem dX11_takeNumber_5 : decode cX11_takeNumber 5 = .ok (.iload_n 3, 1) := by decide +kernel
theorem dX11_takeNumber_6 : decode cX11_takeNumber 6 = .ok (.i2l, 1) := by decide +kernel
theorem dX11_takeNumber_7 : decode cX11_takeNumber 7 = .ok (.ldc2_w 185, 3) := by decide +kernel
theorem dX11_takeNumber_10 : decode cX11_takeNumber 10 = .ok (.ldc2_w 187, 3) := by decide +kernel
theorem dX11_takeNumber_13 : decode cX11_takeNumber 13 = .ok (.invokestatic 142, 3) := by decide +kernel
theorem dX11_takeNumber_16 : decode cX11_takeNumber 16 = .ok (.ifCond .ne 13, 3) := by decide +kernel
theorem dX11_takeNumber_19 : decode cX11_takeNumber 19 = .ok (.aload_n 0, 1) := by decide +kernel
theorem dX11_takeNumber_20 : decode cX11_takeNumber 20 = .ok (.iconst 1, 1) := by decide +kernel
theorem dX11_takeNumber_21 : decode cX11_takeNumber 21 = .ok (.aload_n 0, 1) := by decide +kernel
theorem dX11_takeNumber_22 : decode cX11_takeNumber 22 = .ok (.getfield 159, 3) := by decide +kernel
theorem dX11_takeNumber_25 : decode cX11_takeNumber 25 = .ok (.invokevirtual 189, 3) := by decide +kernel
theorem dX11_takeNumber_28 : decode cX11_takeNumber 28 = .ok (.ireturn, 1) := by decide +kernel
theorem dX11_takeNumber_29 : decode cX11_takeNumber 29 = .ok (.aload_n 0, 1) := by decide +kernel
theorem dX11_takeNumber_30 : decode cX11_takeNumber 30 = .ok (.aload_n 0, 1) := by decide +kernel
theorem dX11_takeNumber_31 : decode cX11_takeNumber 31 = .ok (.getfield 159, 3) := by decide +kernel
theorem dX11_takeNumber_34 : decode cX11_takeNumber 34 = .ok (.putfield 193, 3) := by decide +kernel
theorem dX11_takeNumber_37 : decode cX11_takeNumber 37 = .ok (.aload_n 0, 1) := by decide +kernel
theorem dX11_takeNumber_38 : decode cX11_takeNumber 38 = .ok (.iconst 0, 1) := by decide +kernel
theorem dX11_takeNumber_39 : decode cX11_takeNumber 39 = .ok (.putfield 196, 3) := by decide +kernel
theorem dX11_takeNumber_42 : decode cX11_takeNumber 42 = .ok (.aload_n 0, 1) := by decide +kernel
theorem dX11_takeNumber_43 : decode cX11_takeNumber 43 = .ok (.getfield 159, 3) := by decide +kernel
theorem dX11_takeNumber_46 : decode cX11_takeNumber 46 = .ok (.aload_n 0, 1) := by decide +kernel
theorem dX11_takeNumber_47 : decode cX11_takeNumber 47 = .ok (.getfield 153, 3) := by decide +kernel
theorem dX11_takeNumber_50 : decode cX11_takeNumber 50 = .ok (.if_icmp .ge 79, 3) := by decide +kernel
theorem dX11_takeNumber_53 : decode cX11_takeNumber 53 = .ok (.aload_n 0, 1) := by decide +kernel
theorem dX11_takeNumber_54 : decode cX11_takeNumber 54 = .ok (.getfield 37, 3) := by decide +kernel
theorem dX11_takeNumber_57 : decode cX11_takeNumber 57 = .ok (.aload_n 0, 1) := by decide +kernel
theorem dX11_takeNumber_58 : decode cX11_takeNumber 58 = .ok (.getfield 159, 3) := by decide +kernel
theorem dX11_takeNumber_61 : decode cX11_takeNumber 61 = .ok (.iaload, 1) := by decide +kernel
theorem dX11_takeNumber_62 : decode cX11_takeNumber 62 = .ok (.i2l, 1) := by decide +kernel
theorem dX11_takeNumber_63 : decode cX11_takeNumber 63 = .ok (.ldc2_w 185, 3) := by decide +kernel
theorem dX11_takeNumber_66 : decode cX11_takeNumber 66 = .ok (.ldc2_w 187, 3) := by decide +kernel
theorem dX11_takeNumber_69 : decode cX11_takeNumber 69 = .ok (.invokestatic 142, 3) := by decide +kernel
theorem dX11_takeNumber_72 : decode cX11_takeNumber 72 = .ok (.ifCond .eq 57, 3) := by decide +kernel
theorem dX11_takeNumber_75 : decode cX11_takeNumber 75 = .ok (.aload_n 0, 1) := by decide +kernel
theorem dX11_takeNumber_76 : decode cX11_takeNumber 76 = .ok (.aload_n 0, 1) := by decide +kernel
theorem dX11_takeNumber_77 : decode cX11_takeNumber 77 = .ok (.getfield 196, 3) := by decide +kernel
theorem dX11_takeNumber_80 : decode cX11_takeNumber 80 = .ok (.sipush 10000, 3) := by decide +kernel
theorem dX11_takeNumber_83 : decode cX11_takeNumber 83 = .ok (.if_icmp .le 10, 3) := by decide +kernel
theorem dX11_takeNumber_86 : decode cX11_takeNumber 86 = .ok (.aload_n 0, 1) := by decide +kernel
theorem dX11_takeNumber_87 : decode cX11_takeNumber 87 = .ok (.getfield 196, 3) := by decide +kernel
theorem dX11_takeNumber_90 : decode cX11_takeNumber 90 = .ok (.goto 23, 3) := by decide +kernel
theorem dX11_takeNumber_93 : decode cX11_takeNumber 93 = .ok (.bipush 10, 2) := by decide +kernel
theorem dX11_takeNumber_95 : decode cX11_takeNumber 95 = .ok (.aload_n 0, 1) := by decide +kernel
theorem dX11_takeNumber_96 : decode cX11_takeNumber 96 = .ok (.getfield 196, 3) := by decide +kernel
theorem dX11_takeNumber_99 : decode cX11_takeNumber 99 = .ok (.imul, 1) := by decide +kernel
theorem dX11_takeNumber_100 : decode cX11_takeNumber 100 = .ok (.aload_n 0, 1) := by decide +kernel
theorem dX11_takeNumber_101 : decode cX11_takeNumber 101 = .ok (.getfield 37, 3) := by decide +kernel
theorem dX11_takeNumber_104 : decode cX11_takeNumber 104 = .ok (.aload_n 0, 1) := by decide +kernel
theorem dX11_takeNumber_105 : decode cX11_takeNumber 105 = .ok (.getfield 159, 3) := by decide +kernel
theorem dX11_takeNumber_108 : decode cX11_takeNumber 108 = .ok (.iaload, 1) := by decide +kernel
theorem dX11_takeNumber_109 : decode cX11_takeNumber 109 = .ok (.iadd, 1) := by decide +kernel
theorem dX11_takeNumber_110 : decode cX11_takeNumber 110 = .ok (.bipush 48, 2) := by decide +kernel
theorem dX11_takeNumber_112 : decode cX11_takeNumber 112 = .ok (.isub, 1) := by decide +kernel
theorem dX11_takeNumber_113 : decode cX11_takeNumber 113 = .ok (.putfield 196, 3) := by decide +kernel
theorem dX11_takeNumber_116 : decode cX11_takeNumber 116 = .ok (.aload_n 0, 1) := by decide +kernel
theorem dX11_takeNumber_117 : decode cX11_takeNumber 117 = .ok (.dup, 1) := by decide +kernel
theorem dX11_takeNumber_118 : decode cX11_takeNumber 118 = .ok (.getfield 159, 3) := by decide +kernel
theorem dX11_takeNumber_121 : decode cX11_takeNumber 121 = .ok (.iconst 1, 1) := by decide +kernel
theorem dX11_takeNumber_122 : decode cX11_takeNumber 122 = .ok (.iadd, 1) := by decide +kernel
theorem dX11_takeNumber_123 : decode cX11_takeNumber 123 = .ok (.putfield 159, 3) := by decide +kernel
theorem dX11_takeNumber_126 : decode cX11_takeNumber 126 = .ok (.goto (-84), 3) := by decide +kernel
theorem dX11_takeNumber_129 : decode cX11_takeNumber 129 = .ok (.aload_n 0, 1) := by decide +kernel
theorem dX11_takeNumber_130 : decode cX11_takeNumber 130 = .ok (.getfield 159, 3) := by decide +kernel
theorem dX11_takeNumber_133 : decode cX11_takeNumber 133 = .ok (.aload_n 0, 1) := by decide +kernel
theorem dX11_takeNumber_134 : decode cX11_takeNumber 134 = .ok (.getfield 193, 3) := by decide +kernel
theorem dX11_takeNumber_137 : decode cX11_takeNumber 137 = .ok (.isub, 1) := by decide +kernel
theorem dX11_takeNumber_138 : decode cX11_takeNumber 138 = .ok (.iconst 3, 1) := by decide +kernel
theorem dX11_takeNumber_139 : decode cX11_takeNumber 139 = .ok (.if_icmp .gt 18, 3) := by decide +kernel
theorem dX11_takeNumber_142 : decode cX11_takeNumber 142 = .ok (.aload_n 0, 1) := by decide +kernel
theorem dX11_takeNumber_143 : decode cX11_takeNumber 143 = .ok (.getfield 196, 3) := by decide +kernel
theorem dX11_takeNumber_146 : decode cX11_takeNumber 146 = .ok (.i2l, 1) := by decide +kernel
theorem dX11_takeNumber_147 : decode cX11_takeNumber 147 = .ok (.iload_n 1, 1) := by decide +kernel
theorem dX11_takeNumber_148 : decode cX11_takeNumber 148 = .ok (.i2l, 1) := by decide +kernel
theorem dX11_takeNumber_149 : decode cX11_takeNumber 149 = .ok (.iload_n 2, 1) := by decide +kernel
theorem dX11_takeNumber_150 : decode cX11_takeNumber 150 = .ok (.i2l, 1) := by decide +kernel
theorem dX11_takeNumber_151 : decode cX11_takeNumber 151 = .ok (.invokestatic 142, 3) := by decide +kernel
theorem dX11_takeNumber_154 : decode cX11_takeNumber 154 = .ok (.ifCond .ne 15, 3) := by decide +kernel
theorem dX11_takeNumber_157 : decode cX11_takeNumber 157 = .ok (.aload_n 0, 1) := by decide +kernel
theorem dX11_takeNumber_158 : decode cX11_takeNumber 158 = .ok (.iconst 2, 1) := by decide +kernel
theorem dX11_takeNumber_159 : decode cX11_takeNumber 159 = .ok (.aload_n 0, 1) := by decide +kernel
theorem dX11_takeNumber_160 : decode cX11_takeNumber 160 = .ok (.getfield 193, 3) := by decide +kernel
theorem dX11_takeNumber_163 : decode cX11_takeNumber 163 = .ok (.invokevirtual 189, 3) := by decide +kernel
theorem dX11_takeNumber_166 : decode cX11_takeNumber 166 = .ok (.goto 4, 3) := by decide +kernel
theorem dX11_takeNumber_169 : decode cX11_takeNumber 169 = .ok (.iconst 0, 1) := by decide +kernel
theorem dX11_takeNumber_170 : decode cX11_takeNumber 170 = .ok (.ireturn, 1) := by decide +kernel
theorem dX11_takeMan_0 : decode cX11_takeMan 0 = .ok (.aload_n 0, 1) := by decide +kernel
theorem dX11_takeMan_1 : decode cX11_takeMan 1 = .ok (.iconst 0, 1) := by decide +kernel
theorem dX11_takeMan_2 : decode cX11_takeMan 2 = .ok (.iconst 1, 1) := by decide +kernel
theorem dX11_takeMan_3 : decode cX11_takeMan 3 = .ok (.invokevirtual 202, 3) := by decide +kernel
theorem dX11_takeMan_6 : decode cX11_takeMan 6 = .ok (.istore_n 1, 1) := by decide +kernel
theorem dX11_takeMan_7 : decode cX11_takeMan 7 = .ok (.aload_n 0, 1) := by decide +kernel
theorem dX11_takeMan_8 : decode cX11_takeMan 8 = .ok (.getfield 196, 3) := by decide +kernel
theorem dX11_takeMan_11 : decode cX11_takeMan 11 = .ok (.istore_n 2, 1) := by decide +kernel
theorem dX11_takeMan_12 : decode cX11_takeMan 12 = .ok (.iload_n 1, 1) := by decide +kernel
theorem dX11_takeMan_13 : decode cX11_takeMan 13 = .ok (.ifCond .le 7, 3) := by decide +kernel
theorem dX11_takeMan_16 : decode cX11_takeMan 16 = .ok (.iload_n 1, 1) := by decide +kernel
theorem dX11_takeMan_17 : decode cX11_takeMan 17 = .ok (.goto 14, 3) := by decide +kernel
theorem dX11_takeMan_20 : decode cX11_takeMan 20 = .ok (.aload_n 0, 1) := by decide +kernel
theorem dX11_takeMan_21 : decode cX11_takeMan 21 = .ok (.iconst 0, 1) := by decide +kernel
theorem dX11_takeMan_22 : decode cX11_takeMan 22 = .ok (.aload_n 0, 1) := by decide +kernel
theorem dX11_takeMan_23 : decode cX11_takeMan 23 = .ok (.getfield 199, 3) := by decide +kernel
theorem dX11_takeMan_26 : decode cX11_takeMan 26 = .ok (.iconst 1, 1) := by decide +kernel
theorem dX11_takeMan_27 : decode cX11_takeMan 27 = .ok (.isub, 1) := by decide +kernel
theorem dX11_takeMan_28 : decode cX11_takeMan 28 = .ok (.invokevirtual 202, 3) := by decide +kernel
theorem dX11_takeMan_31 : decode cX11_takeMan 31 = .ok (.istore_n 1, 1) := by decide +kernel
theorem dX11_takeMan_32 : decode cX11_takeMan 32 = .ok (.iload_n 1, 1) := by decide +kernel
theorem dX11_takeMan_33 : decode cX11_takeMan 33 = .ok (.ifCond .le 5, 3) := by decide +kernel
theorem dX11_takeMan_36 : decode cX11_takeMan 36 = .ok (.iload_n 1, 1) := by decide +kernel
theorem dX11_takeMan_37 : decode cX11_takeMan 37 = .ok (.ireturn, 1) := by decide +kernel
theorem dX11_takeMan_38 : decode cX11_takeMan 38 = .ok (.aload_n 0, 1) := by decide +kernel
theorem dX11_takeMan_39 : decode cX11_takeMan 39 = .ok (.getfield 50, 3) := by decide +kernel
theorem dX11_takeMan_42 : decode cX11_takeMan 42 = .ok (.iload_n 2, 1) := by decide +kernel
theorem dX11_takeMan_43 : decode cX11_takeMan 43 = .ok (.iaload, 1) := by decide +kernel
theorem dX11_takeMan_44 : decode cX11_takeMan 44 = .ok (.iconst 3, 1) := by decide +kernel
theorem dX11_takeMan_45 : decode cX11_takeMan 45 = .ok (.if_icmp .ge 7, 3) := by decide +kernel
theorem dX11_takeMan_48 : decode cX11_takeMan 48 = .ok (.iconst 1, 1) := by decide +kernel
theorem dX11_takeMan_49 : decode cX11_takeMan 49 = .ok (.goto 4, 3) := by decide +kernel
theorem dX11_takeMan_52 : decode cX11_takeMan 52 = .ok (.iconst 0, 1) := by decide +kernel
theorem dX11_takeMan_53 : decode cX11_takeMan 53 = .ok (.istore_n 3, 1) := by decide +kernel
theorem dX11_takeMan_54 : decode cX11_takeMan 54 = .ok (.iconst 0, 1) := by decide +kernel
theorem dX11_takeMan_55 : decode cX11_takeMan 55 = .ok (.istore 4, 2) := by decide +kernel
theorem dX11_takeMan_57 : decode cX11_takeMan 57 = .ok (.iload 4, 2) := by decide +kernel
theorem dX11_takeMan_59 : decode cX11_takeMan 59 = .ok (.bipush 6, 2) := by decide +kernel
theorem dX11_takeMan_61 : decode cX11_takeMan 61 = .ok (.if_icmp .ge 49, 3) := by decide +kernel
theorem dX11_takeMan_64 : decode cX11_takeMan 64 = .ok (.iload_n 3, 1) := by decide +kernel
theorem dX11_takeMan_65 : decode cX11_takeMan 65 = .ok (.ifCond .eq 37, 3) := by decide +kernel
theorem dX11_takeMan_68 : decode cX11_takeMan 68 = .ok (.iload 4, 2) := by decide +kernel
theorem dX11_takeMan_70 : decode cX11_takeMan 70 = .ok (.iconst 3, 1) := by decide +kernel
theorem dX11_takeMan_71 : decode cX11_takeMan 71 = .ok (.irem, 1) := by decide +kernel
theorem dX11_takeMan_72 : decode cX11_takeMan 72 = .ok (.aload_n 0, 1) := by decide +kernel
theorem dX11_takeMan_73 : decode cX11_takeMan 73 = .ok (.getfield 50, 3) := by decide +kernel
theorem dX11_takeMan_76 : decode cX11_takeMan 76 = .ok (.iload 4, 2) := by decide +kernel
theorem dX11_takeMan_78 : decode cX11_takeMan 78 = .ok (.iconst 3, 1) := by decide +kernel
theorem dX11_takeMan_79 : decode cX11_takeMan 79 = .ok (.idiv, 1) := by decide +kernel
theorem dX11_takeMan_80 : decode cX11_takeMan 80 = .ok (.iaload, 1) := by decide +kernel
theorem dX11_takeMan_81 : decode cX11_takeMan 81 = .ok (.if_icmp .ge 17, 3) := by decide +kernel
theorem dX11_takeMan_84 : decode cX11_takeMan 84 = .ok (.aload_n 0, 1) := by decide +kernel
theorem dX11_takeMan_85 : decode cX11_takeMan 85 = .ok (.getfield 53, 3) := by decide +kernel
theorem dX11_takeMan_88 : decode cX11_takeMan 88 = .ok (.iload 4, 2) := by decide +kernel
theorem dX11_takeMan_90 : decode cX11_takeMan 90 = .ok (.iaload, 1) := by decide +kernel
theorem dX11_takeMan_91 : decode cX11_takeMan 91 = .ok (.aload_n 0, 1) := by decide +kernel
theorem dX11_takeMan_92 : decode cX11_takeMan 92 = .ok (.getfield 196, 3) := by decide +kernel
theorem dX11_takeMan_95 : decode cX11_takeMan 95 = .ok (.if_icmp .eq 7, 3) := by decide +kernel
theorem dX11_takeMan_98 : decode cX11_takeMan 98 = .ok (.iconst 1, 1) := by decide +kernel
theorem dX11_takeMan_99 : decode cX11_takeMan 99 = .ok (.goto 4, 3) := by decide +kernel
theorem dX11_takeMan_102 : decode cX11_takeMan 102 = .ok (.iconst 0, 1) := by decide +kernel
theorem dX11_takeMan_103 : decode cX11_takeMan 103 = .ok (.istore_n 3, 1) := by decide +kernel
theorem dX11_takeMan_104 : decode cX11_takeMan 104 = .ok (.iinc 4 1, 3) := by decide +kernel
theorem dX11_takeMan_107 : decode cX11_takeMan 107 = .ok (.goto (-50), 3) := by decide +kernel
theorem dX11_takeMan_110 : decode cX11_takeMan 110 = .ok (.iload_n 3, 1) := by decide +kernel
theorem dX11_takeMan_111 : decode cX11_takeMan 111 = .ok (.ifCond .ne 13, 3) := by decide +kernel
theorem dX11_takeMan_114 : decode cX11_takeMan 114 = .ok (.aload_n 0, 1) := by decide +kernel
theorem dX11_takeMan_115 : decode cX11_takeMan 115 = .ok (.iconst 4, 1) := by decide +kernel
theorem dX11_takeMan_116 : decode cX11_takeMan 116 = .ok (.aload_n 0, 1) := by decide +kernel
theorem dX11_takeMan_117 : decode cX11_takeMan 117 = .ok (.getfield 193, 3) := by decide +kernel
theorem dX11_takeMan_120 : decode cX11_takeMan 120 = .ok (.invokevirtual 189, 3) := by decide +kernel
theorem dX11_takeMan_123 : decode cX11_takeMan 123 = .ok (.ireturn, 1) := by decide +kernel
theorem dX11_takeMan_124 : decode cX11_takeMan 124 = .ok (.aload_n 0, 1) := by decide +kernel
theorem dX11_takeMan_125 : decode cX11_takeMan 125 = .ok (.getfield 53, 3) := by decide +kernel
theorem dX11_takeMan_128 : decode cX11_takeMan 128 = .ok (.iconst 3, 1) := by decide +kernel
theorem dX11_takeMan_129 : decode cX11_takeMan 129 = .ok (.iload_n 2, 1) := by decide +kernel
theorem dX11_takeMan_130 : decode cX11_takeMan 130 = .ok (.imul, 1) := by decide +kernel
theorem dX11_takeMan_131 : decode cX11_takeMan 131 = .ok (.aload_n 0, 1) := by decide +kernel
theorem dX11_takeMan_132 : decode cX11_takeMan 132 = .ok (.getfield 50, 3) := by decide +kernel
theorem dX11_takeMan_135 : decode cX11_takeMan 135 = .ok (.iload_n 2, 1) := by decide +kernel
theorem dX11_takeMan_136 : decode cX11_takeMan 136 = .ok (.iaload, 1) := by decide +kernel
theorem dX11_takeMan_137 : decode cX11_takeMan 137 = .ok (.iadd, 1) := by decide +kernel
theorem dX11_takeMan_138 : decode cX11_takeMan 138 = .ok (.aload_n 0, 1) := by decide +kernel
theorem dX11_takeMan_139 : decode cX11_takeMan 139 = .ok (.getfield 196, 3) := by decide +kernel
theorem dX11_takeMan_142 : decode cX11_takeMan 142 = .ok (.iastore, 1) := by decide +kernel
theorem dX11_takeMan_143 : decode cX11_takeMan 143 = .ok (.aload_n 0, 1) := by decide +kernel
theorem dX11_takeMan_144 : decode cX11_takeMan 144 = .ok (.getfield 50, 3) := by decide +kernel
theorem dX11_takeMan_147 : decode cX11_takeMan 147 = .ok (.iload_n 2, 1) := by decide +kernel
theorem dX11_takeMan_148 : decode cX11_takeMan 148 = .ok (.dup2, 1) := by decide +kernel
theorem dX11_takeMan_149 : decode cX11_takeMan 149 = .ok (.iaload, 1) := by decide +kernel
theorem dX11_takeMan_150 : decode cX11_takeMan 150 = .ok (.iconst 1, 1) := by decide +kernel
theorem dX11_takeMan_151 : decode cX11_takeMan 151 = .ok (.iadd, 1) := by decide +kernel
theorem dX11_takeMan_152 : decode cX11_takeMan 152 = .ok (.iastore, 1) := by decide +kernel
theorem dX11_takeMan_153 : decode cX11_takeMan 153 = .ok (.iconst 0, 1) := by decide +kernel
theorem dX11_takeMan_154 : decode cX11_takeMan 154 = .ok (.ireturn, 1) := by decide +kernel
theorem dX11_takeHome_0 : decode cX11_takeHome 0 = .ok (.aload_n 0, 1) := by decide +kernel
theorem dX11_takeHome_1 : decode cX11_takeHome 1 = .ok (.iconst 0, 1) := by decide +kernel
theorem dX11_takeHome_2 : decode cX11_takeHome 2 = .ok (.aload_n 0, 1) := by decide +kernel
theorem dX11_takeHome_3 : decode cX11_takeHome 3 = .ok (.getfield 199, 3) := by decide +kernel
theorem dX11_takeHome_6 : decode cX11_takeHome 6 = .ok (.iconst 1, 1) := by decide +kernel
theorem dX11_takeHome_7 : decode cX11_takeHome 7 = .ok (.isub, 1) := by decide +kernel
theorem dX11_takeHome_8 : decode cX11_takeHome 8 = .ok (.invokevirtual 202, 3) := by decide +kernel
theorem dX11_takeHome_11 : decode cX11_takeHome 11 = .ok (.istore_n 1, 1) := by decide +kernel
theorem dX11_takeHome_12 : decode cX11_takeHome 12 = .ok (.aload_n 0, 1) := by decide +kernel
theorem dX11_takeHome_13 : decode cX11_takeHome 13 = .ok (.getfield 47, 3) := by decide +kernel
theorem dX11_takeHome_16 : decode cX11_takeHome 16 = .ok (.iconst 0, 1) := by decide +kernel
theorem dX11_takeHome_17 : decode cX11_takeHome 17 = .ok (.aload_n 0, 1) := by decide +kernel
theorem dX11_takeHome_18 : decode cX11_takeHome 18 = .ok (.getfield 196, 3) := by decide +kernel
theorem dX11_takeHome_21 : decode cX11_takeHome 21 = .ok (.iastore, 1) := by decide +kernel
theorem dX11_takeHome_22 : decode cX11_takeHome 22 = .ok (.iload_n 1, 1) := by decide +kernel
theorem dX11_takeHome_23 : decode cX11_takeHome 23 = .ok (.ifCond .le 7, 3) := by decide +kernel
theorem dX11_takeHome_26 : decode cX11_takeHome 26 = .ok (.iload_n 1, 1) := by decide +kernel
theorem dX11_takeHome_27 : decode cX11_takeHome 27 = .ok (.goto 14, 3) := by decide +kernel
theorem dX11_takeHome_30 : decode cX11_takeHome 30 = .ok (.aload_n 0, 1) := by decide +kernel
theorem dX11_takeHome_31 : decode cX11_takeHome 31 = .ok (.iconst 0, 1) := by decide +kernel
theorem dX11_takeHome_32 : decode cX11_takeHome 32 = .ok (.aload_n 0, 1) := by decide +kernel
theorem dX11_takeHome_33 : decode cX11_takeHome 33 = .ok (.getfield 199, 3) := by decide +kernel
theorem dX11_takeHome_36 : decode cX11_takeHome 36 = .ok (.iconst 1, 1) := by decide +kernel
theorem dX11_takeHome_37 : decode cX11_takeHome 37 = .ok (.isub, 1) := by decide +kernel
theorem dX11_takeHome_38 : decode cX11_takeHome 38 = .ok (.invokevirtual 202, 3) := by decide +kernel
theorem dX11_takeHome_41 : decode cX11_takeHome 41 = .ok (.istore_n 1, 1) := by decide +kernel
theorem dX11_takeHome_42 : decode cX11_takeHome 42 = .ok (.aload_n 0, 1) := by decide +kernel
theorem dX11_takeHome_43 : decode cX11_takeHome 43 = .ok (.getfield 47, 3) := by decide +kernel
theorem dX11_takeHome_46 : decode cX11_takeHome 46 = .ok (.iconst 1, 1) := by decide +kernel
theorem dX11_takeHome_47 : decode cX11_takeHome 47 = .ok (.aload_n 0, 1) := by decide +kernel
theorem dX11_takeHome_48 : decode cX11_takeHome 48 = .ok (.getfield 196, 3) := by decide +kernel
theorem dX11_takeHome_51 : decode cX11_takeHome 51 = .ok (.iastore, 1) := by decide +kernel
theorem dX11_takeHome_52 : decode cX11_takeHome 52 = .ok (.iload_n 1, 1) := by decide +kernel
theorem dX11_takeHome_53 : decode cX11_takeHome 53 = .ok (.ifCond .le 7, 3) := by decide +kernel
theorem dX11_takeHome_56 : decode cX11_takeHome 56 = .ok (.iload_n 1, 1) := by decide +kernel
theorem dX11_takeHome_57 : decode cX11_takeHome 57 = .ok (.goto 29, 3) := by decide +kernel
theorem dX11_takeHome_60 : decode cX11_takeHome 60 = .ok (.aload_n 0, 1) := by decide +kernel
theorem dX11_takeHome_61 : decode cX11_takeHome 61 = .ok (.getfield 47, 3) := by decide +kernel
theorem dX11_takeHome_64 : decode cX11_takeHome 64 = .ok (.iconst 0, 1) := by decide +kernel
theorem dX11_takeHome_65 : decode cX11_takeHome 65 = .ok (.iaload, 1) := by decide +kernel
theorem dX11_takeHome_66 : decode cX11_takeHome 66 = .ok (.aload_n 0, 1) := by decide +kernel
theorem dX11_takeHome_67 : decode cX11_takeHome 67 = .ok (.getfield 196, 3) := by decide +kernel
theorem dX11_takeHome_70 : decode cX11_takeHome 70 = .ok (.if_icmp .ne 15, 3) := by decide +kernel
theorem dX11_takeHome_73 : decode cX11_takeHome 73 = .ok (.aload_n 0, 1) := by decide +kernel
theorem dX11_takeHome_74 : decode cX11_takeHome 74 = .ok (.iconst 4, 1) := by decide +kernel
theorem dX11_takeHome_75 : decode cX11_takeHome 75 = .ok (.aload_n 0, 1) := by decide +kernel
theorem dX11_takeHome_76 : decode cX11_takeHome 76 = .ok (.getfield 193, 3) := by decide +kernel
theorem dX11_takeHome_79 : decode cX11_takeHome 79 = .ok (.invokevirtual 189, 3) := by decide +kernel
theorem dX11_takeHome_82 : decode cX11_takeHome 82 = .ok (.goto 4, 3) := by decide +kernel
theorem dX11_takeHome_85 : decode cX11_takeHome 85 = .ok (.iconst 0, 1) := by decide +kernel
theorem dX11_takeHome_86 : decode cX11_takeHome 86 = .ok (.ireturn, 1) := by decide +kernel
theorem dX11_has_0 : decode cX11_has 0 = .ok (.iload_n 0, 1) := by decide +kernel
theorem dX11_has_1 : decode cX11_has 1 = .ok (.iload_n 1, 1) := by decide +kernel
theorem dX11_has_2 : decode cX11_has 2 = .ok (.ishr, 1) := by decide +kernel
theorem dX11_has_3 : decode cX11_has 3 = .ok (.iconst 1, 1) := by decide +kernel
theorem dX11_has_4 : decode cX11_has 4 = .ok (.iand, 1) := by decide +kernel
theorem dX11_has_5 : decode cX11_has 5 = .ok (.iconst 1, 1) := by decide +kernel
theorem dX11_has_6 : decode cX11_has 6 = .ok (.if_icmp .ne 7, 3) := by decide +kernel
theorem dX11_has_9 : decode cX11_has 9 = .ok (.iconst 1, 1) := by decide +kernel
theorem dX11_has_10 : decode cX11_has 10 = .ok (.goto 4, 3) := by decide +kernel
theorem dX11_has_13 : decode cX11_has 13 = .ok (.iconst 0, 1) := by decide +kernel
theorem dX11_has_14 : decode cX11_has 14 = .ok (.ireturn, 1) := by decide +kernel
theorem dX11_bits_0 : decode cX11_bits 0 = .ok (.iconst 0, 1) := by decide +kernel
theorem dX11_bits_1 : decode cX11_bits 1 = .ok (.istore_n 1, 1) := by decide +kernel
theorem dX11_bits_2 : decode cX11_bits 2 = .ok (.iconst 0, 1) := by decide +kernel
theorem dX11_bits_3 : decode cX11_bits 3 = .ok (.istore_n 2, 1) := by decide +kernel
theorem dX11_bits_4 : decode cX11_bits 4 = .ok (.iload_n 2, 1) := by decide +kernel
theorem dX11_bits_5 : decode cX11_bits 5 = .ok (.bipush 9, 2) := by decide +kernel
theorem dX11_bits_7 : decode cX11_bits 7 = .ok (.if_icmp .ge 17, 3) := by decide +kernel
theorem dX11_bits_10 : decode cX11_bits 10 = .ok (.iload_n 1, 1) := by decide +kernel
theorem dX11_bits_11 : decode cX11_bits 11 = .ok (.iload_n 0, 1) := by decide +kernel
theorem dX11_bits_12 : decode cX11_bits 12 = .ok (.iload_n 2, 1) := by decide +kernel
theorem dX11_bits_13 : decode cX11_bits 13 = .ok (.ishr, 1) := by decide +kernel
theorem dX11_bits_14 : decode cX11_bits 14 = .ok (.iconst 1, 1) := by decide +kernel
theorem dX11_bits_15 : decode cX11_bits 15 = .ok (.iand, 1) := by decide +kernel
theorem dX11_bits_16 : decode cX11_bits 16 = .ok (.iadd, 1) := by decide +kernel
theorem dX11_bits_17 : decode cX11_bits 17 = .ok (.istore_n 1, 1) := by decide +kernel
theorem dX11_bits_18 : decode cX11_bits 18 = .ok (.iinc 2 1, 3) := by decide +kernel
theorem dX11_bits_21 : decode cX11_bits 21 = .ok (.goto (-17), 3) := by decide +kernel
theorem dX11_bits_24 : decode cX11_bits 24 = .ok (.iload_n 1, 1) := by decide +kernel
theorem dX11_bits_25 : decode cX11_bits 25 = .ok (.ireturn, 1) := by decide +kernel
theorem dX11_takeWay_0 : decode cX11_takeWay 0 = .ok (.aload_n 0, 1) := by decide +kernel
theorem dX11_takeWay_1 : decode cX11_takeWay 1 = .ok (.iconst 0, 1) := by decide +kernel
theorem dX11_takeWay_2 : decode cX11_takeWay 2 = .ok (.aload_n 0, 1) := by decide +kernel
theorem dX11_takeWay_3 : decode cX11_takeWay 3 = .ok (.getfield 199, 3) := by decide +kernel
theorem dX11_takeWay_6 : decode cX11_takeWay 6 = .ok (.iconst 1, 1) := by decide +kernel
theorem dX11_takeWay_7 : decode cX11_takeWay 7 = .ok (.isub, 1) := by decide +kernel
theorem dX11_takeWay_8 : decode cX11_takeWay 8 = .ok (.invokevirtual 202, 3) := by decide +kernel
theorem dX11_takeWay_11 : decode cX11_takeWay 11 = .ok (.istore_n 1, 1) := by decide +kernel
theorem dX11_takeWay_12 : decode cX11_takeWay 12 = .ok (.aload_n 0, 1) := by decide +kernel
theorem dX11_takeWay_13 : decode cX11_takeWay 13 = .ok (.getfield 196, 3) := by decide +kernel
theorem dX11_takeWay_16 : decode cX11_takeWay 16 = .ok (.istore_n 2, 1) := by decide +kernel
theorem dX11_takeWay_17 : decode cX11_takeWay 17 = .ok (.iload_n 1, 1) := by decide +kernel
theorem dX11_takeWay_18 : decode cX11_takeWay 18 = .ok (.ifCond .le 7, 3) := by decide +kernel
theorem dX11_takeWay_21 : decode cX11_takeWay 21 = .ok (.iload_n 1, 1) := by decide +kernel
theorem dX11_takeWay_22 : decode cX11_takeWay 22 = .ok (.goto 14, 3) := by decide +kernel
theorem dX11_takeWay_25 : decode cX11_takeWay 25 = .ok (.aload_n 0, 1) := by decide +kernel
theorem dX11_takeWay_26 : decode cX11_takeWay 26 = .ok (.iconst 0, 1) := by decide +kernel
theorem dX11_takeWay_27 : decode cX11_takeWay 27 = .ok (.aload_n 0, 1) := by decide +kernel
theorem dX11_takeWay_28 : decode cX11_takeWay 28 = .ok (.getfield 199, 3) := by decide +kernel
theorem dX11_takeWay_31 : decode cX11_takeWay 31 = .ok (.iconst 1, 1) := by decide +kernel
theorem dX11_takeWay_32 : decode cX11_takeWay 32 = .ok (.isub, 1) := by decide +kernel
theorem dX11_takeWay_33 : decode cX11_takeWay 33 = .ok (.invokevirtual 202, 3) := by decide +kernel
theorem dX11_takeWay_36 : decode cX11_takeWay 36 = .ok (.istore_n 1, 1) := by decide +kernel
theorem dX11_takeWay_37 : decode cX11_takeWay 37 = .ok (.iload_n 1, 1) := by decide +kernel
theorem dX11_takeWay_38 : decode cX11_takeWay 38 = .ok (.ifCond .le 5, 3) := by decide +kernel
theorem dX11_takeWay_41 : decode cX11_takeWay 41 = .ok (.iload_n 1, 1) := by decide +kernel
theorem dX11_takeWay_42 : decode cX11_takeWay 42 = .ok (.ireturn, 1) := by decide +kernel
theorem dX11_takeWay_43 : decode cX11_takeWay 43 = .ok (.iload_n 2, 1) := by decide +kernel
theorem dX11_takeWay_44 : decode cX11_takeWay 44 = .ok (.aload_n 0, 1) := by decide +kernel
theorem dX11_takeWay_45 : decode cX11_takeWay 45 = .ok (.getfield 196, 3) := by decide +kernel
theorem dX11_takeWay_48 : decode cX11_takeWay 48 = .ok (.if_icmp .eq 48, 3) := by decide +kernel
theorem dX11_takeWay_51 : decode cX11_takeWay 51 = .ok (.aload_n 0, 1) := by decide +kernel
theorem dX11_takeWay_52 : decode cX11_takeWay 52 = .ok (.getfield 44, 3) := by decide +kernel
theorem dX11_takeWay_55 : decode cX11_takeWay 55 = .ok (.iload_n 2, 1) := by decide +kernel
theorem dX11_takeWay_56 : decode cX11_takeWay 56 = .ok (.iaload, 1) := by decide +kernel
theorem dX11_takeWay_57 : decode cX11_takeWay 57 = .ok (.aload_n 0, 1) := by decide +kernel
theorem dX11_takeWay_58 : decode cX11_takeWay 58 = .ok (.getfield 196, 3) := by decide +kernel
theorem dX11_takeWay_61 : decode cX11_takeWay 61 = .ok (.invokestatic 205, 3) := by decide +kernel
theorem dX11_takeWay_64 : decode cX11_takeWay 64 = .ok (.ifCond .ne 32, 3) := by decide +kernel
theorem dX11_takeWay_67 : decode cX11_takeWay 67 = .ok (.aload_n 0, 1) := by decide +kernel
theorem dX11_takeWay_68 : decode cX11_takeWay 68 = .ok (.getfield 44, 3) := by decide +kernel
theorem dX11_takeWay_71 : decode cX11_takeWay 71 = .ok (.iload_n 2, 1) := by decide +kernel
theorem dX11_takeWay_72 : decode cX11_takeWay 72 = .ok (.iaload, 1) := by decide +kernel
theorem dX11_takeWay_73 : decode cX11_takeWay 73 = .ok (.invokestatic 209, 3) := by decide +kernel
theorem dX11_takeWay_76 : decode cX11_takeWay 76 = .ok (.iconst 3, 1) := by decide +kernel
theorem dX11_takeWay_77 : decode cX11_takeWay 77 = .ok (.if_icmp .eq 19, 3) := by decide +kernel
theorem dX11_takeWay_80 : decode cX11_takeWay 80 = .ok (.aload_n 0, 1) := by decide +kernel
theorem dX11_takeWay_81 : decode cX11_takeWay 81 = .ok (.getfield 44, 3) := by decide +kernel
theorem dX11_takeWay_84 : decode cX11_takeWay 84 = .ok (.aload_n 0, 1) := by decide +kernel
theorem dX11_takeWay_85 : decode cX11_takeWay 85 = .ok (.getfield 196, 3) := by decide +kernel
theorem dX11_takeWay_88 : decode cX11_takeWay 88 = .ok (.iaload, 1) := by decide +kernel
theorem dX11_takeWay_89 : decode cX11_takeWay 89 = .ok (.invokestatic 209, 3) := by decide +kernel
theorem dX11_takeWay_92 : decode cX11_takeWay 92 = .ok (.iconst 3, 1) := by decide +kernel
theorem dX11_takeWay_93 : decode cX11_takeWay 93 = .ok (.if_icmp .ne 13, 3) := by decide +kernel
theorem dX11_takeWay_96 : decode cX11_takeWay 96 = .ok (.aload_n 0, 1) := by decide +kernel
theorem dX11_takeWay_97 : decode cX11_takeWay 97 = .ok (.iconst 4, 1) := by decide +kernel
theorem dX11_takeWay_98 : decode cX11_takeWay 98 = .ok (.aload_n 0, 1) := by decide +kernel
theorem dX11_takeWay_99 : decode cX11_takeWay 99 = .ok (.getfield 193, 3) := by decide +kernel
theorem dX11_takeWay_102 : decode cX11_takeWay 102 = .ok (.invokevirtual 189, 3) := by decide +kernel
theorem dX11_takeWay_105 : decode cX11_takeWay 105 = .ok (.ireturn, 1) := by decide +kernel
theorem dX11_takeWay_106 : decode cX11_takeWay 106 = .ok (.aload_n 0, 1) := by decide +kernel
theorem dX11_takeWay_107 : decode cX11_takeWay 107 = .ok (.getfield 44, 3) := by decide +kernel
theorem dX11_takeWay_110 : decode cX11_takeWay 110 = .ok (.iload_n 2, 1) := by decide +kernel
theorem dX11_takeWay_111 : decode cX11_takeWay 111 = .ok (.dup2, 1) := by decide +kernel
theorem dX11_takeWay_112 : decode cX11_takeWay 112 = .ok (.iaload, 1) := by decide +kernel
theorem dX11_takeWay_113 : decode cX11_takeWay 113 = .ok (.iconst 1, 1) := by decide +kernel
theorem dX11_takeWay_114 : decode cX11_takeWay 114 = .ok (.aload_n 0, 1) := by decide +kernel
theorem dX11_takeWay_115 : decode cX11_takeWay 115 = .ok (.getfield 196, 3) := by decide +kernel
theorem dX11_takeWay_118 : decode cX11_takeWay 118 = .ok (.ishl, 1) := by decide +kernel
theorem dX11_takeWay_119 : decode cX11_takeWay 119 = .ok (.ior, 1) := by decide +kernel
theorem dX11_takeWay_120 : decode cX11_takeWay 120 = .ok (.iastore, 1) := by decide +kernel
theorem dX11_takeWay_121 : decode cX11_takeWay 121 = .ok (.aload_n 0, 1) := by decide +kernel
theorem dX11_takeWay_122 : decode cX11_takeWay 122 = .ok (.getfield 44, 3) := by decide +kernel
theorem dX11_takeWay_125 : decode cX11_takeWay 125 = .ok (.aload_n 0, 1) := by decide +kernel
theorem dX11_takeWay_126 : decode cX11_takeWay 126 = .ok (.getfield 196, 3) := by decide +kernel
theorem dX11_takeWay_129 : decode cX11_takeWay 129 = .ok (.dup2, 1) := by decide +kernel
theorem dX11_takeWay_130 : decode cX11_takeWay 130 = .ok (.iaload, 1) := by decide +kernel
theorem dX11_takeWay_131 : decode cX11_takeWay 131 = .ok (.iconst 1, 1) := by decide +kernel
theorem dX11_takeWay_132 : decode cX11_takeWay 132 = .ok (.iload_n 2, 1) := by decide +kernel
theorem dX11_takeWay_133 : decode cX11_takeWay 133 = .ok (.ishl, 1) := by decide +kernel
theorem dX11_takeWay_134 : decode cX11_takeWay 134 = .ok (.ior, 1) := by decide +kernel
theorem dX11_takeWay_135 : decode cX11_takeWay 135 = .ok (.iastore, 1) := by decide +kernel
theorem dX11_takeWay_136 : decode cX11_takeWay 136 = .ok (.iconst 0, 1) := by decide +kernel
theorem dX11_takeWay_137 : decode cX11_takeWay 137 = .ok (.ireturn, 1) := by decide +kernel
theorem dX11_takeClause_0 : decode cX11_takeClause 0 = .ok (.aload_n 0, 1) := by decide +kernel
theorem dX11_takeClause_1 : decode cX11_takeClause 1 = .ok (.invokevirtual 213, 3) := by decide +kernel
theorem dX11_takeClause_4 : decode cX11_takeClause 4 = .ok (.aload_n 0, 1) := by decide +kernel
theorem dX11_takeClause_5 : decode cX11_takeClause 5 = .ok (.getfield 166, 3) := by decide +kernel
theorem dX11_takeClause_8 : decode cX11_takeClause 8 = .ok (.ldc2_w 181, 3) := by decide +kernel
theorem dX11_takeClause_11 : decode cX11_takeClause 11 = .ok (.ldc2_w 181, 3) := by decide +kernel
theorem dX11_takeClause_14 : decode cX11_takeClause 14 = .ok (.ldc2_w 181, 3) := by decide +kernel
theorem dX11_takeClause_17 : decode cX11_takeClause 17 = .ok (.bipush 102, 2) := by decide +kernel
theorem dX11_takeClause_19 : decode cX11_takeClause 19 = .ok (.bipush 105, 2) := by decide +kernel
theorem dX11_takeClause_21 : decode cX11_takeClause 21 = .ok (.bipush 101, 2) := by decide +kernel
theorem dX11_takeClause_23 : decode cX11_takeClause 23 = .ok (.invokestatic 216, 3) := by decide +kernel
theorem dX11_takeClause_26 : decode cX11_takeClause 26 = .ok (.lmul, 1) := by decide +kernel
theorem dX11_takeClause_27 : decode cX11_takeClause 27 = .ok (.ldc2_w 220, 3) := by decide +kernel
theorem dX11_takeClause_30 : decode cX11_takeClause 30 = .ok (.ladd, 1) := by decide +kernel
theorem dX11_takeClause_31 : decode cX11_takeClause 31 = .ok (.ldc2_w 183, 3) := by decide +kernel
theorem dX11_takeClause_34 : decode cX11_takeClause 34 = .ok (.lsub, 1) := by decide +kernel
theorem dX11_takeClause_35 : decode cX11_takeClause 35 = .ok (.lmul, 1) := by decide +kernel
theorem dX11_takeClause_36 : decode cX11_takeClause 36 = .ok (.ldc2_w 222, 3) := by decide +kernel
theorem dX11_takeClause_39 : decode cX11_takeClause 39 = .ok (.ladd, 1) := by decide +kernel
theorem dX11_takeClause_40 : decode cX11_takeClause 40 = .ok (.ldc2_w 183, 3) := by decide +kernel
theorem dX11_takeClause_43 : decode cX11_takeClause 43 = .ok (.lsub, 1) := by decide +kernel
theorem dX11_takeClause_44 : decode cX11_takeClause 44 = .ok (.lmul, 1) := by decide +kernel
theorem dX11_takeClause_45 : decode cX11_takeClause 45 = .ok (.ldc2_w 224, 3) := by decide +kernel
theorem dX11_takeClause_48 : decode cX11_takeClause 48 = .ok (.ladd, 1) := by decide +kernel
theorem dX11_takeClause_49 : decode cX11_takeClause 49 = .ok (.ldc2_w 183, 3) := by decide +kernel
theorem dX11_takeClause_52 : decode cX11_takeClause 52 = .ok (.lsub, 1) := by decide +kernel
theorem dX11_takeClause_53 : decode cX11_takeClause 53 = .ok (.lcmp, 1) := by decide +kernel
theorem dX11_takeClause_54 : decode cX11_takeClause 54 = .ok (.ifCond .ne 7, 3) := by decide +kernel
theorem dX11_takeClause_57 : decode cX11_takeClause 57 = .ok (.iconst 0, 1) := by decide +kernel
theorem dX11_takeClause_58 : decode cX11_takeClause 58 = .ok (.goto 79, 3) := by decide +kernel
theorem dX11_takeClause_61 : decode cX11_takeClause 61 = .ok (.aload_n 0, 1) := by decide +kernel
theorem dX11_takeClause_62 : decode cX11_takeClause 62 = .ok (.getfield 166, 3) := by decide +kernel
theorem dX11_takeClause_65 : decode cX11_takeClause 65 = .ok (.bipush 119, 2) := by decide +kernel
theorem dX11_takeClause_67 : decode cX11_takeClause 67 = .ok (.bipush 97, 2) := by decide +kernel
theorem dX11_takeClause_69 : decode cX11_takeClause 69 = .ok (.bipush 121, 2) := by decide +kernel
theorem dX11_takeClause_71 : decode cX11_takeClause 71 = .ok (.invokestatic 216, 3) := by decide +kernel
theorem dX11_takeClause_74 : decode cX11_takeClause 74 = .ok (.lcmp, 1) := by decide +kernel
theorem dX11_takeClause_75 : decode cX11_takeClause 75 = .ok (.ifCond .ne 7, 3) := by decide +kernel
theorem dX11_takeClause_78 : decode cX11_takeClause 78 = .ok (.iconst 1, 1) := by decide +kernel
theorem dX11_takeClause_79 : decode cX11_takeClause 79 = .ok (.goto 58, 3) := by decide +kernel
theorem dX11_takeClause_82 : decode cX11_takeClause 82 = .ok (.aload_n 0, 1) := by decide +kernel
theorem dX11_takeClause_83 : decode cX11_takeClause 83 = .ok (.getfield 166, 3) := by decide +kernel
theorem dX11_takeClause_86 : decode cX11_takeClause 86 = .ok (.ldc2_w 181, 3) := by decide +kernel
theorem dX11_takeClause_89 : decode cX11_takeClause 89 = .ok (.bipush 104, 2) := by decide +kernel
theorem dX11_takeClause_91 : decode cX11_takeClause 91 = .ok (.bipush 111, 2) := by decide +kernel
theorem dX11_takeClause_93 : decode cX11_takeClause 93 = .ok (.bipush 109, 2) := by decide +kernel
theorem dX11_takeClause_95 : decode cX11_takeClause 95 = .ok (.invokestatic 216, 3) := by decide +kernel
theorem dX11_takeClause_98 : decode cX11_takeClause 98 = .ok (.lmul, 1) := by decide +kernel
theorem dX11_takeClause_99 : decode cX11_takeClause 99 = .ok (.ldc2_w 226, 3) := by decide +kernel
theorem dX11_takeClause_102 : decode cX11_takeClause 102 = .ok (.ladd, 1) := by decide +kernel
theorem dX11_takeClause_103 : decode cX11_takeClause 103 = .ok (.ldc2_w 183, 3) := by decide +kernel
theorem dX11_takeClause_106 : decode cX11_takeClause 106 = .ok (.lsub, 1) := by decide +kernel
theorem dX11_takeClause_107 : decode cX11_takeClause 107 = .ok (.lcmp, 1) := by decide +kernel
theorem dX11_takeClause_108 : decode cX11_takeClause 108 = .ok (.ifCond .ne 7, 3) := by decide +kernel
theorem dX11_takeClause_111 : decode cX11_takeClause 111 = .ok (.iconst 2, 1) := by decide +kernel
theorem dX11_takeClause_112 : decode cX11_takeClause 112 = .ok (.goto 25, 3) := by decide +kernel
theorem dX11_takeClause_115 : decode cX11_takeClause 115 = .ok (.aload_n 0, 1) := by decide +kernel
theorem dX11_takeClause_116 : decode cX11_takeClause 116 = .ok (.getfield 166, 3) := by decide +kernel
theorem dX11_takeClause_119 : decode cX11_takeClause 119 = .ok (.bipush 109, 2) := by decide +kernel
theorem dX11_takeClause_121 : decode cX11_takeClause 121 = .ok (.bipush 97, 2) := by decide +kernel
theorem dX11_takeClause_123 : decode cX11_takeClause 123 = .ok (.bipush 110, 2) := by decide +kernel
theorem dX11_takeClause_125 : decode cX11_takeClause 125 = .ok (.invokestatic 216, 3) := by decide +kernel
theorem dX11_takeClause_128 : decode cX11_takeClause 128 = .ok (.lcmp, 1) := by decide +kernel
theorem dX11_takeClause_129 : decode cX11_takeClause 129 = .ok (.ifCond .ne 7, 3) := by decide +kernel
theorem dX11_takeClause_132 : decode cX11_takeClause 132 = .ok (.iconst 3, 1) := by decide +kernel
theorem dX11_takeClause_133 : decode cX11_takeClause 133 = .ok (.goto 4, 3) := by decide +kernel
theorem dX11_takeClause_136 : decode cX11_takeClause 136 = .ok (.iconst (-1), 1) := by decide +kernel
theorem dX11_takeClause_137 : decode cX11_takeClause 137 = .ok (.istore_n 2, 1) := by decide +kernel
theorem dX11_takeClause_138 : decode cX11_takeClause 138 = .ok (.iload_n 2, 1) := by decide +kernel
theorem dX11_takeClause_139 : decode cX11_takeClause 139 = .ok (.ifCond .lt 14, 3) := by decide +kernel
theorem dX11_takeClause_142 : decode cX11_takeClause 142 = .ok (.iload_n 2, 1) := by decide +kernel
theorem dX11_takeClause_143 : decode cX11_takeClause 143 = .ok (.ifCond .le 20, 3) := by decide +kernel
theorem dX11_takeClause_146 : decode cX11_takeClause 146 = .ok (.aload_n 0, 1) := by decide +kernel
theorem dX11_takeClause_147 : decode cX11_takeClause 147 = .ok (.getfield 199, 3) := by decide +kernel
theorem dX11_takeClause_150 : decode cX11_takeClause 150 = .ok (.ifCond .ne 13, 3) := by decide +kernel
theorem dX11_takeClause_153 : decode cX11_takeClause 153 = .ok (.aload_n 0, 1) := by decide +kernel
theorem dX11_takeClause_154 : decode cX11_takeClause 154 = .ok (.iconst 1, 1) := by decide +kernel
theorem dX11_takeClause_155 : decode cX11_takeClause 155 = .ok (.aload_n 0, 1) := by decide +kernel
theorem dX11_takeClause_156 : decode cX11_takeClause 156 = .ok (.getfield 159, 3) := by decide +kernel
theorem dX11_takeClause_159 : decode cX11_takeClause 159 = .ok (.invokevirtual 189, 3) := by decide +kernel
theorem dX11_takeClause_162 : decode cX11_takeClause 162 = .ok (.ireturn, 1) := by decide +kernel
theorem dX11_takeClause_163 : decode cX11_takeClause 163 = .ok (.iload_n 2, 1) := by decide +kernel
theorem dX11_takeClause_164 : decode cX11_takeClause 164 = .ok (.ifCond .ne 10, 3) := by decide +kernel
theorem dX11_takeClause_167 : decode cX11_takeClause 167 = .ok (.aload_n 0, 1) := by decide +kernel
theorem dX11_takeClause_168 : decode cX11_takeClause 168 = .ok (.getfield 199, 3) := by decide +kernel
theorem dX11_takeClause_171 : decode cX11_takeClause 171 = .ok (.ifCond .gt 12, 3) := by decide +kernel
theorem dX11_takeClause_174 : decode cX11_takeClause 174 = .ok (.iload_n 2, 1) := by decide +kernel
theorem dX11_takeClause_175 : decode cX11_takeClause 175 = .ok (.iconst 2, 1) := by decide +kernel
theorem dX11_takeClause_176 : decode cX11_takeClause 176 = .ok (.if_icmp .ne 17, 3) := by decide +kernel
theorem dX11_takeClause_179 : decode cX11_takeClause 179 = .ok (.iload_n 1, 1) := by decide +kernel
theorem dX11_takeClause_180 : decode cX11_takeClause 180 = .ok (.ifCond .eq 13, 3) := by decide +kernel
theorem dX11_takeClause_183 : decode cX11_takeClause 183 = .ok (.aload_n 0, 1) := by decide +kernel
theorem dX11_takeClause_184 : decode cX11_takeClause 184 = .ok (.iconst 3, 1) := by decide +kernel
theorem dX11_takeClause_185 : decode cX11_takeClause 185 = .ok (.aload_n 0, 1) := by decide +kernel
theorem dX11_takeClause_186 : decode cX11_takeClause 186 = .ok (.getfield 159, 3) := by decide +kernel
theorem dX11_takeClause_189 : decode cX11_takeClause 189 = .ok (.invokevirtual 189, 3) := by decide +kernel
theorem dX11_takeClause_192 : decode cX11_takeClause 192 = .ok (.ireturn, 1) := by decide +kernel
theorem dX11_takeClause_193 : decode cX11_takeClause 193 = .ok (.aload_n 0, 1) := by decide +kernel
theorem dX11_takeClause_194 : decode cX11_takeClause 194 = .ok (.aload_n 0, 1) := by decide +kernel
theorem dX11_takeClause_195 : decode cX11_takeClause 195 = .ok (.getfield 170, 3) := by decide +kernel
theorem dX11_takeClause_198 : decode cX11_takeClause 198 = .ok (.putfield 159, 3) := by decide +kernel
theorem dX11_takeClause_201 : decode cX11_takeClause 201 = .ok (.iconst 0, 1) := by decide +kernel
theorem dX11_takeClause_202 : decode cX11_takeClause 202 = .ok (.istore_n 3, 1) := by decide +kernel
theorem dX11_takeClause_203 : decode cX11_takeClause 203 = .ok (.iload_n 2, 1) := by decide +kernel
theorem dX11_takeClause_204 : decode cX11_takeClause 204 = .ok (.ifCond .ne 41, 3) := by decide +kernel
theorem dX11_takeClause_207 : decode cX11_takeClause 207 = .ok (.aload_n 0, 1) := by decide +kernel
theorem dX11_takeClause_208 : decode cX11_takeClause 208 = .ok (.iconst 2, 1) := by decide +kernel
theorem dX11_takeClause_209 : decode cX11_takeClause 209 = .ok (.bipush 9, 2) := by decide +kernel
theorem dX11_takeClause_211 : decode cX11_takeClause 211 = .ok (.invokevirtual 202, 3) := by decide +kernel
theorem dX11_takeClause_214 : decode cX11_takeClause 214 = .ok (.istore_n 3, 1) := by decide +kernel
theorem dX11_takeClause_215 : decode cX11_takeClause 215 = .ok (.aload_n 0, 1) := by decide +kernel
theorem dX11_takeClause_216 : decode cX11_takeClause 216 = .ok (.aload_n 0, 1) := by decide +kernel
theorem dX11_takeClause_217 : decode cX11_takeClause 217 = .ok (.getfield 196, 3) := by decide +kernel
theorem dX11_takeClause_220 : decode cX11_takeClause 220 = .ok (.putfield 199, 3) := by decide +kernel
theorem dX11_takeClause_223 : decode cX11_takeClause 223 = .ok (.aload_n 0, 1) := by decide +kernel
theorem dX11_takeClause_224 : decode cX11_takeClause 224 = .ok (.getfield 47, 3) := by decide +kernel
theorem dX11_takeClause_227 : decode cX11_takeClause 227 = .ok (.iconst 0, 1) := by decide +kernel
theorem dX11_takeClause_228 : decode cX11_takeClause 228 = .ok (.iconst 0, 1) := by decide +kernel
theorem dX11_takeClause_229 : decode cX11_takeClause 229 = .ok (.iastore, 1) := by decide +kernel
theorem dX11_takeClause_230 : decode cX11_takeClause 230 = .ok (.aload_n 0, 1) := by decide +kernel
theorem dX11_takeClause_231 : decode cX11_takeClause 231 = .ok (.getfield 47, 3) := by decide +kernel
theorem dX11_takeClause_234 : decode cX11_takeClause 234 = .ok (.iconst 1, 1) := by decide +kernel
theorem dX11_takeClause_235 : decode cX11_takeClause 235 = .ok (.aload_n 0, 1) := by decide +kernel
theorem dX11_takeClause_236 : decode cX11_takeClause 236 = .ok (.getfield 196, 3) := by decide +kernel
theorem dX11_takeClause_239 : decode cX11_takeClause 239 = .ok (.iconst 1, 1) := by decide +kernel
theorem dX11_takeClause_240 : decode cX11_takeClause 240 = .ok (.isub, 1) := by decide +kernel
theorem dX11_takeClause_241 : decode cX11_takeClause 241 = .ok (.iastore, 1) := by decide +kernel
theorem dX11_takeClause_242 : decode cX11_takeClause 242 = .ok (.goto 32, 3) := by decide +kernel
theorem dX11_takeClause_245 : decode cX11_takeClause 245 = .ok (.iload_n 2, 1) := by decide +kernel
theorem dX11_takeClause_246 : decode cX11_takeClause 246 = .ok (.iconst 1, 1) := by decide +kernel
theorem dX11_takeClause_247 : decode cX11_takeClause 247 = .ok (.if_icmp .ne 10, 3) := by decide +kernel
theorem dX11_takeClause_250 : decode cX11_takeClause 250 = .ok (.aload_n 0, 1) := by decide +kernel
theorem dX11_takeClause_251 : decode cX11_takeClause 251 = .ok (.invokevirtual 228, 3) := by decide +kernel
theorem dX11_takeClause_254 : decode cX11_takeClause 254 = .ok (.goto 19, 3) := by decide +kernel
theorem dX11_takeClause_257 : decode cX11_takeClause 257 = .ok (.iload_n 2, 1) := by decide +kernel
theorem dX11_takeClause_258 : decode cX11_takeClause 258 = .ok (.iconst 2, 1) := by decide +kernel
theorem dX11_takeClause_259 : decode cX11_takeClause 259 = .ok (.if_icmp .ne 10, 3) := by decide +kernel
theorem dX11_takeClause_262 : decode cX11_takeClause 262 = .ok (.aload_n 0, 1) := by decide +kernel
theorem dX11_takeClause_263 : decode cX11_takeClause 263 = .ok (.invokevirtual 231, 3) := by decide +kernel
theorem dX11_takeClause_266 : decode cX11_takeClause 266 = .ok (.goto 7, 3) := by decide +kernel
theorem dX11_takeClause_269 : decode cX11_takeClause 269 = .ok (.aload_n 0, 1) := by decide +kernel
theorem dX11_takeClause_270 : decode cX11_takeClause 270 = .ok (.invokevirtual 234, 3) := by decide +kernel
theorem dX11_takeClause_273 : decode cX11_takeClause 273 = .ok (.istore_n 3, 1) := by decide +kernel
theorem dX11_takeClause_274 : decode cX11_takeClause 274 = .ok (.aload_n 0, 1) := by decide +kernel
theorem dX11_takeClause_275 : decode cX11_takeClause 275 = .ok (.iload_n 2, 1) := by decide +kernel
theorem dX11_takeClause_276 : decode cX11_takeClause 276 = .ok (.iconst 2, 1) := by decide +kernel
theorem dX11_takeClause_277 : decode cX11_takeClause 277 = .ok (.if_icmp .ne 7, 3) := by decide +kernel
theorem dX11_takeClause_280 : decode cX11_takeClause 280 = .ok (.iconst 1, 1) := by decide +kernel
theorem dX11_takeClause_281 : decode cX11_takeClause 281 = .ok (.goto 4, 3) := by decide +kernel
theorem dX11_takeClause_284 : decode cX11_takeClause 284 = .ok (.iconst 0, 1) := by decide +kernel
theorem dX11_takeClause_285 : decode cX11_takeClause 285 = .ok (.putfield 237, 3) := by decide +kernel
theorem dX11_takeClause_288 : decode cX11_takeClause 288 = .ok (.iload_n 3, 1) := by decide +kernel
theorem dX11_takeClause_289 : decode cX11_takeClause 289 = .ok (.ifCond .ne 22, 3) := by decide +kernel
theorem dX11_takeClause_292 : decode cX11_takeClause 292 = .ok (.aload_n 0, 1) := by decide +kernel
theorem dX11_takeClause_293 : decode cX11_takeClause 293 = .ok (.invokevirtual 162, 3) := by decide +kernel
theorem dX11_takeClause_296 : decode cX11_takeClause 296 = .ok (.bipush 59, 2) := by decide +kernel
theorem dX11_takeClause_298 : decode cX11_takeClause 298 = .ok (.if_icmp .eq 13, 3) := by decide +kernel
theorem dX11_takeClause_301 : decode cX11_takeClause 301 = .ok (.aload_n 0, 1) := by decide +kernel
theorem dX11_takeClause_302 : decode cX11_takeClause 302 = .ok (.iconst 1, 1) := by decide +kernel
theorem dX11_takeClause_303 : decode cX11_takeClause 303 = .ok (.aload_n 0, 1) := by decide +kernel
theorem dX11_takeClause_304 : decode cX11_takeClause 304 = .ok (.getfield 159, 3) := by decide +kernel
theorem dX11_takeClause_307 : decode cX11_takeClause 307 = .ok (.invokevirtual 189, 3) := by decide +kernel
theorem dX11_takeClause_310 : decode cX11_takeClause 310 = .ok (.ireturn, 1) := by decide +kernel
theorem dX11_takeClause_311 : decode cX11_takeClause 311 = .ok (.aload_n 0, 1) := by decide +kernel
theorem dX11_takeClause_312 : decode cX11_takeClause 312 = .ok (.dup, 1) := by decide +kernel
theorem dX11_takeClause_313 : decode cX11_takeClause 313 = .ok (.getfield 159, 3) := by decide +kernel
theorem dX11_takeClause_316 : decode cX11_takeClause 316 = .ok (.iconst 1, 1) := by decide +kernel
theorem dX11_takeClause_317 : decode cX11_takeClause 317 = .ok (.iadd, 1) := by decide +kernel
theorem dX11_takeClause_318 : decode cX11_takeClause 318 = .ok (.putfield 159, 3) := by decide +kernel
theorem dX11_takeClause_321 : decode cX11_takeClause 321 = .ok (.iload_n 3, 1) := by decide +kernel
theorem dX11_takeClause_322 : decode cX11_takeClause 322 = .ok (.ireturn, 1) := by decide +kernel
theorem dX11_net_0 : decode cX11_net 0 = .ok (.aload_n 0, 1) := by decide +kernel
theorem dX11_net_1 : decode cX11_net 1 = .ok (.iconst (-1), 1) := by decide +kernel
theorem dX11_net_2 : decode cX11_net 2 = .ok (.putfield 40, 3) := by decide +kernel
theorem dX11_net_5 : decode cX11_net 5 = .ok (.aload_n 0, 1) := by decide +kernel
theorem dX11_net_6 : decode cX11_net 6 = .ok (.iconst 0, 1) := by decide +kernel
theorem dX11_net_7 : decode cX11_net 7 = .ok (.putfield 159, 3) := by decide +kernel
theorem dX11_net_10 : decode cX11_net 10 = .ok (.aload_n 0, 1) := by decide +kernel
theorem dX11_net_11 : decode cX11_net 11 = .ok (.iconst 0, 1) := by decide +kernel
theorem dX11_net_12 : decode cX11_net 12 = .ok (.putfield 199, 3) := by decide +kernel
theorem dX11_net_15 : decode cX11_net 15 = .ok (.aload_n 0, 1) := by decide +kernel
theorem dX11_net_16 : decode cX11_net 16 = .ok (.getfield 50, 3) := by decide +kernel
theorem dX11_net_19 : decode cX11_net 19 = .ok (.iconst 0, 1) := by decide +kernel
theorem dX11_net_20 : decode cX11_net 20 = .ok (.iconst 0, 1) := by decide +kernel
theorem dX11_net_21 : decode cX11_net 21 = .ok (.iastore, 1) := by decide +kernel
theorem dX11_net_22 : decode cX11_net 22 = .ok (.aload_n 0, 1) := by decide +kernel
theorem dX11_net_23 : decode cX11_net 23 = .ok (.getfield 50, 3) := by decide +kernel
theorem dX11_net_26 : decode cX11_net 26 = .ok (.iconst 1, 1) := by decide +kernel
theorem dX11_net_27 : decode cX11_net 27 = .ok (.iconst 0, 1) := by decide +kernel
theorem dX11_net_28 : decode cX11_net 28 = .ok (.iastore, 1) := by decide +kernel
theorem dX11_net_29 : decode cX11_net 29 = .ok (.aload_n 0, 1) := by decide +kernel
theorem dX11_net_30 : decode cX11_net 30 = .ok (.getfield 47, 3) := by decide +kernel
theorem dX11_net_33 : decode cX11_net 33 = .ok (.iconst 0, 1) := by decide +kernel
theorem dX11_net_34 : decode cX11_net 34 = .ok (.iconst (-1), 1) := by decide +kernel
theorem dX11_net_35 : decode cX11_net 35 = .ok (.iastore, 1) := by decide +kernel
theorem dX11_net_36 : decode cX11_net 36 = .ok (.aload_n 0, 1) := by decide +kernel
theorem dX11_net_37 : decode cX11_net 37 = .ok (.getfield 47, 3) := by decide +kernel
theorem dX11_net_40 : decode cX11_net 40 = .ok (.iconst 1, 1) := by decide +kernel
theorem dX11_net_41 : decode cX11_net 41 = .ok (.iconst (-1), 1) := by decide +kernel
theorem dX11_net_42 : decode cX11_net 42 = .ok (.iastore, 1) := by decide +kernel
theorem dX11_net_43 : decode cX11_net 43 = .ok (.iconst 0, 1) := by decide +kernel
theorem dX11_net_44 : decode cX11_net 44 = .ok (.istore_n 1, 1) := by decide +kernel
theorem dX11_net_45 : decode cX11_net 45 = .ok (.iload_n 1, 1) := by decide +kernel
theorem dX11_net_46 : decode cX11_net 46 = .ok (.bipush 9, 2) := by decide +kernel
theorem dX11_net_48 : decode cX11_net 48 = .ok (.if_icmp .ge 16, 3) := by decide +kernel
theorem dX11_net_51 : decode cX11_net 51 = .ok (.aload_n 0, 1) := by decide +kernel
theorem dX11_net_52 : decode cX11_net 52 = .ok (.getfield 44, 3) := by decide +kernel
theorem dX11_net_55 : decode cX11_net 55 = .ok (.iload_n 1, 1) := by decide +kernel
theorem dX11_net_56 : decode cX11_net 56 = .ok (.iconst 0, 1) := by decide +kernel
theorem dX11_net_57 : decode cX11_net 57 = .ok (.iastore, 1) := by decide +kernel
theorem dX11_net_58 : decode cX11_net 58 = .ok (.iinc 1 1, 3) := by decide +kernel
theorem dX11_net_61 : decode cX11_net 61 = .ok (.goto (-16), 3) := by decide +kernel
theorem dX11_net_64 : decode cX11_net 64 = .ok (.iconst 0, 1) := by decide +kernel
theorem dX11_net_65 : decode cX11_net 65 = .ok (.istore_n 1, 1) := by decide +kernel
theorem dX11_net_66 : decode cX11_net 66 = .ok (.iconst 0, 1) := by decide +kernel
theorem dX11_net_67 : decode cX11_net 67 = .ok (.istore_n 2, 1) := by decide +kernel
theorem dX11_net_68 : decode cX11_net 68 = .ok (.iload_n 1, 1) := by decide +kernel
theorem dX11_net_69 : decode cX11_net 69 = .ok (.ifCond .ne 36, 3) := by decide +kernel
theorem dX11_net_72 : decode cX11_net 72 = .ok (.aload_n 0, 1) := by decide +kernel
theorem dX11_net_73 : decode cX11_net 73 = .ok (.invokevirtual 162, 3) := by decide +kernel
theorem dX11_net_76 : decode cX11_net 76 = .ok (.ifCond .lt 29, 3) := by decide +kernel
theorem dX11_net_79 : decode cX11_net 79 = .ok (.aload_n 0, 1) := by decide +kernel
theorem dX11_net_80 : decode cX11_net 80 = .ok (.iload_n 2, 1) := by decide +kernel
theorem dX11_net_81 : decode cX11_net 81 = .ok (.invokevirtual 241, 3) := by decide +kernel
theorem dX11_net_84 : decode cX11_net 84 = .ok (.istore_n 1, 1) := by decide +kernel
theorem dX11_net_85 : decode cX11_net 85 = .ok (.iload_n 2, 1) := by decide +kernel
theorem dX11_net_86 : decode cX11_net 86 = .ok (.ifCond .ne 10, 3) := by decide +kernel
theorem dX11_net_89 : decode cX11_net 89 = .ok (.aload_n 0, 1) := by decide +kernel
theorem dX11_net_90 : decode cX11_net 90 = .ok (.getfield 237, 3) := by decide +kernel
theorem dX11_net_93 : decode cX11_net 93 = .ok (.ifCond .eq 7, 3) := by decide +kernel
theorem dX11_net_96 : decode cX11_net 96 = .ok (.iconst 1, 1) := by decide +kernel
theorem dX11_net_97 : decode cX11_net 97 = .ok (.goto 4, 3) := by decide +kernel
theorem dX11_net_100 : decode cX11_net 100 = .ok (.iconst 0, 1) := by decide +kernel
theorem dX11_net_101 : decode cX11_net 101 = .ok (.istore_n 2, 1) := by decide +kernel
theorem dX11_net_102 : decode cX11_net 102 = .ok (.goto (-34), 3) := by decide +kernel
theorem dX11_net_105 : decode cX11_net 105 = .ok (.aload_n 0, 1) := by decide +kernel
theorem dX11_net_106 : decode cX11_net 106 = .ok (.iconst 0, 1) := by decide +kernel
theorem dX11_net_107 : decode cX11_net 107 = .ok (.putfield 153, 3) := by decide +kernel
theorem dX11_net_110 : decode cX11_net 110 = .ok (.iload_n 1, 1) := by decide +kernel
theorem dX11_net_111 : decode cX11_net 111 = .ok (.ifCond .le 8, 3) := by decide +kernel
theorem dX11_net_114 : decode cX11_net 114 = .ok (.bipush (-10), 2) := by decide +kernel
theorem dX11_net_116 : decode cX11_net 116 = .ok (.iload_n 1, 1) := by decide +kernel
theorem dX11_net_117 : decode cX11_net 117 = .ok (.isub, 1) := by decide +kernel
theorem dX11_net_118 : decode cX11_net 118 = .ok (.ireturn, 1) := by decide +kernel
theorem dX11_net_119 : decode cX11_net 119 = .ok (.aload_n 0, 1) := by decide +kernel
theorem dX11_net_120 : decode cX11_net 120 = .ok (.aload_n 0, 1) := by decide +kernel
theorem dX11_net_121 : decode cX11_net 121 = .ok (.getfield 199, 3) := by decide +kernel
theorem dX11_net_124 : decode cX11_net 124 = .ok (.putfield 139, 3) := by decide +kernel
theorem dX11_net_127 : decode cX11_net 127 = .ok (.iconst 0, 1) := by decide +kernel
theorem dX11_net_128 : decode cX11_net 128 = .ok (.istore_n 3, 1) := by decide +kernel
theorem dX11_net_129 : decode cX11_net 129 = .ok (.iload_n 3, 1) := by decide +kernel
theorem dX11_net_130 : decode cX11_net 130 = .ok (.bipush 9, 2) := by decide +kernel
theorem dX11_net_132 : decode cX11_net 132 = .ok (.if_icmp .ge 21, 3) := by decide +kernel
theorem dX11_net_135 : decode cX11_net 135 = .ok (.aload_n 0, 1) := by decide +kernel
theorem dX11_net_136 : decode cX11_net 136 = .ok (.getfield 7, 3) := by decide +kernel
theorem dX11_net_139 : decode cX11_net 139 = .ok (.iload_n 3, 1) := by decide +kernel
theorem dX11_net_140 : decode cX11_net 140 = .ok (.aload_n 0, 1) := by decide +kernel
theorem dX11_net_141 : decode cX11_net 141 = .ok (.getfield 44, 3) := by decide +kernel
theorem dX11_net_144 : decode cX11_net 144 = .ok (.iload_n 3, 1) := by decide +kernel
theorem dX11_net_145 : decode cX11_net 145 = .ok (.iaload, 1) := by decide +kernel
theorem dX11_net_146 : decode cX11_net 146 = .ok (.iastore, 1) := by decide +kernel
theorem dX11_net_147 : decode cX11_net 147 = .ok (.iinc 3 1, 3) := by decide +kernel
theorem dX11_net_150 : decode cX11_net 150 = .ok (.goto (-21), 3) := by decide +kernel
theorem dX11_net_153 : decode cX11_net 153 = .ok (.iconst 0, 1) := by decide +kernel
theorem dX11_net_154 : decode cX11_net 154 = .ok (.istore_n 3, 1) := by decide +kernel
theorem dX11_net_155 : decode cX11_net 155 = .ok (.iload_n 3, 1) := by decide +kernel
theorem dX11_net_156 : decode cX11_net 156 = .ok (.iconst 2, 1) := by decide +kernel
theorem dX11_net_157 : decode cX11_net 157 = .ok (.if_icmp .ge 33, 3) := by decide +kernel
theorem dX11_net_160 : decode cX11_net 160 = .ok (.aload_n 0, 1) := by decide +kernel
theorem dX11_net_161 : decode cX11_net 161 = .ok (.getfield 13, 3) := by decide +kernel
theorem dX11_net_164 : decode cX11_net 164 = .ok (.iload_n 3, 1) := by decide +kernel
theorem dX11_net_165 : decode cX11_net 165 = .ok (.aload_n 0, 1) := by decide +kernel
theorem dX11_net_166 : decode cX11_net 166 = .ok (.getfield 47, 3) := by decide +kernel
theorem dX11_net_169 : decode cX11_net 169 = .ok (.iload_n 3, 1) := by decide +kernel
theorem dX11_net_170 : decode cX11_net 170 = .ok (.iaload, 1) := by decide +kernel
theorem dX11_net_171 : decode cX11_net 171 = .ok (.iastore, 1) := by decide +kernel
theorem dX11_net_172 : decode cX11_net 172 = .ok (.aload_n 0, 1) := by decide +kernel
theorem dX11_net_173 : decode cX11_net 173 = .ok (.getfield 16, 3) := by decide +kernel
theorem dX11_net_176 : decode cX11_net 176 = .ok (.iload_n 3, 1) := by decide +kernel
theorem dX11_net_177 : decode cX11_net 177 = .ok (.aload_n 0, 1) := by decide +kernel
theorem dX11_net_178 : decode cX11_net 178 = .ok (.getfield 50, 3) := by decide +kernel
theorem dX11_net_181 : decode cX11_net 181 = .ok (.iload_n 3, 1) := by decide +kernel
theorem dX11_net_182 : decode cX11_net 182 = .ok (.iaload, 1) := by decide +kernel
theorem dX11_net_183 : decode cX11_net 183 = .ok (.iastore, 1) := by decide +kernel
theorem dX11_net_184 : decode cX11_net 184 = .ok (.iinc 3 1, 3) := by decide +kernel
theorem dX11_net_187 : decode cX11_net 187 = .ok (.goto (-32), 3) := by decide +kernel
theorem dX11_net_190 : decode cX11_net 190 = .ok (.iconst 0, 1) := by decide +kernel
theorem dX11_net_191 : decode cX11_net 191 = .ok (.istore_n 3, 1) := by decide +kernel
theorem dX11_net_192 : decode cX11_net 192 = .ok (.iload_n 3, 1) := by decide +kernel
theorem dX11_net_193 : decode cX11_net 193 = .ok (.bipush 6, 2) := by decide +kernel
theorem dX11_net_195 : decode cX11_net 195 = .ok (.if_icmp .ge 63, 3) := by decide +kernel
theorem dX11_net_198 : decode cX11_net 198 = .ok (.aload_n 0, 1) := by decide +kernel
theorem dX11_net_199 : decode cX11_net 199 = .ok (.getfield 19, 3) := by decide +kernel
theorem dX11_net_202 : decode cX11_net 202 = .ok (.iload_n 3, 1) := by decide +kernel
theorem dX11_net_203 : decode cX11_net 203 = .ok (.iload_n 3, 1) := by decide +kernel
theorem dX11_net_204 : decode cX11_net 204 = .ok (.iconst 3, 1) := by decide +kernel
theorem dX11_net_205 : decode cX11_net 205 = .ok (.irem, 1) := by decide +kernel
theorem dX11_net_206 : decode cX11_net 206 = .ok (.aload_n 0, 1) := by decide +kernel
theorem dX11_net_207 : decode cX11_net 207 = .ok (.getfield 16, 3) := by decide +kernel
theorem dX11_net_210 : decode cX11_net 210 = .ok (.iload_n 3, 1) := by decide +kernel
theorem dX11_net_211 : decode cX11_net 211 = .ok (.iconst 3, 1) := by decide +kernel
theorem dX11_net_212 : decode cX11_net 212 = .ok (.idiv, 1) := by decide +kernel
theorem dX11_net_213 : decode cX11_net 213 = .ok (.iaload, 1) := by decide +kernel
theorem dX11_net_214 : decode cX11_net 214 = .ok (.if_icmp .ge 12, 3) := by decide +kernel
theorem dX11_net_217 : decode cX11_net 217 = .ok (.aload_n 0, 1) := by decide +kernel
theorem dX11_net_218 : decode cX11_net 218 = .ok (.getfield 53, 3) := by decide +kernel
theorem dX11_net_221 : decode cX11_net 221 = .ok (.iload_n 3, 1) := by decide +kernel
theorem dX11_net_222 : decode cX11_net 222 = .ok (.iaload, 1) := by decide +kernel
theorem dX11_net_223 : decode cX11_net 223 = .ok (.goto 4, 3) := by decide +kernel
theorem dX11_net_226 : decode cX11_net 226 = .ok (.iconst (-1), 1) := by decide +kernel
theorem dX11_net_227 : decode cX11_net 227 = .ok (.iastore, 1) := by decide +kernel
theorem dX11_net_228 : decode cX11_net 228 = .ok (.aload_n 0, 1) := by decide +kernel
theorem dX11_net_229 : decode cX11_net 229 = .ok (.getfield 22, 3) := by decide +kernel
theorem dX11_net_232 : decode cX11_net 232 = .ok (.iload_n 3, 1) := by decide +kernel
theorem dX11_net_233 : decode cX11_net 233 = .ok (.aload_n 0, 1) := by decide +kernel
theorem dX11_net_234 : decode cX11_net 234 = .ok (.getfield 19, 3) := by decide +kernel
theorem dX11_net_237 : decode cX11_net 237 = .ok (.iload_n 3, 1) := by decide +kernel
theorem dX11_net_238 : decode cX11_net 238 = .ok (.iaload, 1) := by decide +kernel
theorem dX11_net_239 : decode cX11_net 239 = .ok (.iastore, 1) := by decide +kernel
theorem dX11_net_240 : decode cX11_net 240 = .ok (.aload_n 0, 1) := by decide +kernel
theorem dX11_net_241 : decode cX11_net 241 = .ok (.getfield 25, 3) := by decide +kernel
theorem dX11_net_244 : decode cX11_net 244 = .ok (.iload_n 3, 1) := by decide +kernel
theorem dX11_net_245 : decode cX11_net 245 = .ok (.aload_n 0, 1) := by decide +kernel
theorem dX11_net_246 : decode cX11_net 246 = .ok (.getfield 19, 3) := by decide +kernel
theorem dX11_net_249 : decode cX11_net 249 = .ok (.iload_n 3, 1) := by decide +kernel
theorem dX11_net_250 : decode cX11_net 250 = .ok (.iaload, 1) := by decide +kernel
theorem dX11_net_251 : decode cX11_net 251 = .ok (.iastore, 1) := by decide +kernel
theorem dX11_net_252 : decode cX11_net 252 = .ok (.iinc 3 1, 3) := by decide +kernel
theorem dX11_net_255 : decode cX11_net 255 = .ok (.goto (-63), 3) := by decide +kernel
theorem dX11_net_258 : decode cX11_net 258 = .ok (.aload_n 0, 1) := by decide +kernel
theorem dX11_net_259 : decode cX11_net 259 = .ok (.iconst 0, 1) := by decide +kernel
theorem dX11_net_260 : decode cX11_net 260 = .ok (.putfield 245, 3) := by decide +kernel
theorem dX11_net_263 : decode cX11_net 263 = .ok (.aload_n 0, 1) := by decide +kernel
theorem dX11_net_264 : decode cX11_net 264 = .ok (.iconst 0, 1) := by decide +kernel
theorem dX11_net_265 : decode cX11_net 265 = .ok (.putfield 248, 3) := by decide +kernel
theorem dX11_net_268 : decode cX11_net 268 = .ok (.aload_n 0, 1) := by decide +kernel
theorem dX11_net_269 : decode cX11_net 269 = .ok (.iconst 0, 1) := by decide +kernel
theorem dX11_net_270 : decode cX11_net 270 = .ok (.putfield 251, 3) := by decide +kernel
theorem dX11_net_273 : decode cX11_net 273 = .ok (.aload_n 0, 1) := by decide +kernel
theorem dX11_net_274 : decode cX11_net 274 = .ok (.getfield 136, 3) := by decide +kernel
theorem dX11_net_277 : decode cX11_net 277 = .ok (.iconst 0, 1) := by decide +kernel
theorem dX11_net_278 : decode cX11_net 278 = .ok (.iconst 0, 1) := by decide +kernel
theorem dX11_net_279 : decode cX11_net 279 = .ok (.bastore, 1) := by decide +kernel
theorem dX11_net_280 : decode cX11_net 280 = .ok (.aload_n 0, 1) := by decide +kernel
theorem dX11_net_281 : decode cX11_net 281 = .ok (.getfield 136, 3) := by decide +kernel
theorem dX11_net_284 : decode cX11_net 284 = .ok (.iconst 1, 1) := by decide +kernel
theorem dX11_net_285 : decode cX11_net 285 = .ok (.iconst 0, 1) := by decide +kernel
theorem dX11_net_286 : decode cX11_net 286 = .ok (.bastore, 1) := by decide +kernel
theorem dX11_net_287 : decode cX11_net 287 = .ok (.aload_n 0, 1) := by decide +kernel
theorem dX11_net_288 : decode cX11_net 288 = .ok (.getfield 16, 3) := by decide +kernel
theorem dX11_net_291 : decode cX11_net 291 = .ok (.iconst 0, 1) := by decide +kernel
theorem dX11_net_292 : decode cX11_net 292 = .ok (.iaload, 1) := by decide +kernel
theorem dX11_net_293 : decode cX11_net 293 = .ok (.aload_n 0, 1) := by decide +kernel
theorem dX11_net_294 : decode cX11_net 294 = .ok (.getfield 16, 3) := by decide +kernel
theorem dX11_net_297 : decode cX11_net 297 = .ok (.iconst 1, 1) := by decide +kernel
theorem dX11_net_298 : decode cX11_net 298 = .ok (.iaload, 1) := by decide +kernel
theorem dX11_net_299 : decode cX11_net 299 = .ok (.iadd, 1) := by decide +kernel
theorem dX11_net_300 : decode cX11_net 300 = .ok (.ireturn, 1) := by decide +kernel
theorem dX11_fault_0 : decode cX11_fault 0 = .ok (.aload_n 0, 1) := by decide +kernel
theorem dX11_fault_1 : decode cX11_fault 1 = .ok (.getfield 40, 3) := by decide +kernel
theorem dX11_fault_4 : decode cX11_fault 4 = .ok (.ireturn, 1) := by decide +kernel
theorem dX11_standing_0 : decode cX11_standing 0 = .ok (.iconst 0, 1) := by decide +kernel
theorem dX11_standing_1 : decode cX11_standing 1 = .ok (.istore_n 2, 1) := by decide +kernel
theorem dX11_standing_2 : decode cX11_standing 2 = .ok (.iconst 0, 1) := by decide +kernel
theorem dX11_standing_3 : decode cX11_standing 3 = .ok (.istore_n 3, 1) := by decide +kernel
theorem dX11_standing_4 : decode cX11_standing 4 = .ok (.iload_n 3, 1) := by decide +kernel
theorem dX11_standing_5 : decode cX11_standing 5 = .ok (.iconst 3, 1) := by decide +kernel
theorem dX11_standing_6 : decode cX11_standing 6 = .ok (.if_icmp .ge 30, 3) := by decide +kernel
theorem dX11_standing_9 : decode cX11_standing 9 = .ok (.iload_n 2, 1) := by decide +kernel
theorem dX11_standing_10 : decode cX11_standing 10 = .ok (.aload_n 0, 1) := by decide +kernel
theorem dX11_standing_11 : decode cX11_standing 11 = .ok (.getfield 22, 3) := by decide +kernel
theorem dX11_standing_14 : decode cX11_standing 14 = .ok (.iconst 3, 1) := by decide +kernel
theorem dX11_standing_15 : decode cX11_standing 15 = .ok (.iload_n 1, 1) := by decide +kernel
theorem dX11_standing_16 : decode cX11_standing 16 = .ok (.imul, 1) := by decide +kernel
theorem dX11_standing_17 : decode cX11_standing 17 = .ok (.iload_n 3, 1) := by decide +kernel
theorem dX11_standing_18 : decode cX11_standing 18 = .ok (.iadd, 1) := by decide +kernel
theorem dX11_standing_19 : decode cX11_standing 19 = .ok (.iaload, 1) := by decide +kernel
theorem dX11_standing_20 : decode cX11_standing 20 = .ok (.ifCond .lt 7, 3) := by decide +kernel
theorem dX11_standing_23 : decode cX11_standing 23 = .ok (.iconst 1, 1) := by decide +kernel
theorem dX11_standing_24 : decode cX11_standing 24 = .ok (.goto 4, 3) := by decide +kernel
theorem dX11_standing_27 : decode cX11_standing 27 = .ok (.iconst 0, 1) := by decide +kernel
theorem dX11_standing_28 : decode cX11_standing 28 = .ok (.iadd, 1) := by decide +kernel
theorem dX11_standing_29 : decode cX11_standing 29 = .ok (.istore_n 2, 1) := by decide +kernel
theorem dX11_standing_30 : decode cX11_standing 30 = .ok (.iinc 3 1, 3) := by decide +kernel
theorem dX11_standing_33 : decode cX11_standing 33 = .ok (.goto (-29), 3) := by decide +kernel
theorem dX11_standing_36 : decode cX11_standing 36 = .ok (.iload_n 2, 1) := by decide +kernel
theorem dX11_standing_37 : decode cX11_standing 37 = .ok (.ireturn, 1) := by decide +kernel
theorem dX11_stateNow_0 : decode cX11_stateNow 0 = .ok (.aload_n 0, 1) := by decide +kernel
theorem dX11_stateNow_1 : decode cX11_stateNow 1 = .ok (.iconst 1, 1) := by decide +kernel
theorem dX11_stateNow_2 : decode cX11_stateNow 2 = .ok (.invokevirtual 254, 3) := by decide +kernel
theorem dX11_stateNow_5 : decode cX11_stateNow 5 = .ok (.ifCond .ne 7, 3) := by decide +kernel
theorem dX11_stateNow_8 : decode cX11_stateNow 8 = .ok (.iconst 1, 1) := by decide +kernel
theorem dX11_stateNow_9 : decode cX11_stateNow 9 = .ok (.goto 4, 3) := by decide +kernel
theorem dX11_stateNow_12 : decode cX11_stateNow 12 = .ok (.iconst 0, 1) := by decide +kernel
theorem dX11_stateNow_13 : decode cX11_stateNow 13 = .ok (.istore_n 1, 1) := by decide +kernel
theorem dX11_stateNow_14 : decode cX11_stateNow 14 = .ok (.aload_n 0, 1) := by decide +kernel
theorem dX11_stateNow_15 : decode cX11_stateNow 15 = .ok (.iconst 0, 1) := by decide +kernel
theorem dX11_stateNow_16 : decode cX11_stateNow 16 = .ok (.invokevirtual 254, 3) := by decide +kernel
theorem dX11_stateNow_19 : decode cX11_stateNow 19 = .ok (.ifCond .ne 7, 3) := by decide +kernel
theorem dX11_stateNow_22 : decode cX11_stateNow 22 = .ok (.iconst 1, 1) := by decide +kernel
theorem dX11_stateNow_23 : decode cX11_stateNow 23 = .ok (.goto 4, 3) := by decide +kernel
theorem dX11_stateNow_26 : decode cX11_stateNow 26 = .ok (.iconst 0, 1) := by decide +kernel
theorem dX11_stateNow_27 : decode cX11_stateNow 27 = .ok (.istore_n 2, 1) := by decide +kernel
theorem dX11_stateNow_28 : decode cX11_stateNow 28 = .ok (.iconst 0, 1) := by decide +kernel
theorem dX11_stateNow_29 : decode cX11_stateNow 29 = .ok (.istore_n 3, 1) := by decide +kernel
theorem dX11_stateNow_30 : decode cX11_stateNow 30 = .ok (.iload_n 3, 1) := by decide +kernel
theorem dX11_stateNow_31 : decode cX11_stateNow 31 = .ok (.iconst 3, 1) := by decide +kernel
theorem dX11_stateNow_32 : decode cX11_stateNow 32 = .ok (.if_icmp .ge 61, 3) := by decide +kernel
theorem dX11_stateNow_35 : decode cX11_stateNow 35 = .ok (.iload_n 1, 1) := by decide +kernel
theorem dX11_stateNow_36 : decode cX11_stateNow 36 = .ok (.ifCond .ne 18, 3) := by decide +kernel
theorem dX11_stateNow_39 : decode cX11_stateNow 39 = .ok (.aload_n 0, 1) := by decide +kernel
theorem dX11_stateNow_40 : decode cX11_stateNow 40 = .ok (.getfield 22, 3) := by decide +kernel
theorem dX11_stateNow_43 : decode cX11_stateNow 43 = .ok (.iload_n 3, 1) := by decide +kernel
theorem dX11_stateNow_44 : decode cX11_stateNow 44 = .ok (.iaload, 1) := by decide +kernel
theorem dX11_stateNow_45 : decode cX11_stateNow 45 = .ok (.aload_n 0, 1) := by decide +kernel
theorem dX11_stateNow_46 : decode cX11_stateNow 46 = .ok (.getfield 13, 3) := by decide +kernel
theorem dX11_stateNow_49 : decode cX11_stateNow 49 = .ok (.iconst 1, 1) := by decide +kernel
theorem dX11_stateNow_50 : decode cX11_stateNow 50 = .ok (.iaload, 1) := by decide +kernel
