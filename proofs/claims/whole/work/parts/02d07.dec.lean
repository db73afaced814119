theorem dX11_lookAt_247 : decode cX11_lookAt 247 = .ok (.iconst 1, 1) := by decide +kernel
theorem dX11_lookAt_248 : decode cX11_lookAt 248 = .ok (.goto 4, 3) := by decide +kernel
theorem dX11_lookAt_251 : decode cX11_lookAt 251 = .ok (.iconst 0, 1) := by decide +kernel
theorem dX11_lookAt_252 : decode cX11_lookAt 252 = .ok (.istore 7, 2) := by decide +kernel
theorem dX11_lookAt_254 : decode cX11_lookAt 254 = .ok (.aload_n 0, 1) := by decide +kernel
theorem dX11_lookAt_255 : decode cX11_lookAt 255 = .ok (.getfield 62, 3) := by decide +kernel
theorem dX11_lookAt_258 : decode cX11_lookAt 258 = .ok (.iload 5, 2) := by decide +kernel
theorem dX11_lookAt_260 : decode cX11_lookAt 260 = .ok (.aload_n 0, 1) := by decide +kernel
theorem dX11_lookAt_261 : decode cX11_lookAt 261 = .ok (.getfield 62, 3) := by decide +kernel
theorem dX11_lookAt_264 : decode cX11_lookAt 264 = .ok (.iload 5, 2) := by decide +kernel
theorem dX11_lookAt_266 : decode cX11_lookAt 266 = .ok (.baload, 1) := by decide +kernel
theorem dX11_lookAt_267 : decode cX11_lookAt 267 = .ok (.ifCond .ne 13, 3) := by decide +kernel
theorem dX11_lookAt_270 : decode cX11_lookAt 270 = .ok (.iload 6, 2) := by decide +kernel
theorem dX11_lookAt_272 : decode cX11_lookAt 272 = .ok (.ifCond .eq 12, 3) := by decide +kernel
theorem dX11_lookAt_275 : decode cX11_lookAt 275 = .ok (.iload 7, 2) := by decide +kernel
theorem dX11_lookAt_277 : decode cX11_lookAt 277 = .ok (.ifCond .ne 7, 3) := by decide +kernel
theorem dX11_lookAt_280 : decode cX11_lookAt 280 = .ok (.iconst 1, 1) := by decide +kernel
theorem dX11_lookAt_281 : decode cX11_lookAt 281 = .ok (.goto 4, 3) := by decide +kernel
theorem dX11_lookAt_284 : decode cX11_lookAt 284 = .ok (.iconst 0, 1) := by decide +kernel
theorem dX11_lookAt_285 : decode cX11_lookAt 285 = .ok (.bastore, 1) := by decide +kernel
theorem dX11_lookAt_286 : decode cX11_lookAt 286 = .ok (.aload_n 0, 1) := by decide +kernel
theorem dX11_lookAt_287 : decode cX11_lookAt 287 = .ok (.getfield 66, 3) := by decide +kernel
theorem dX11_lookAt_290 : decode cX11_lookAt 290 = .ok (.iload 6, 2) := by decide +kernel
theorem dX11_lookAt_292 : decode cX11_lookAt 292 = .ok (.ifCond .eq 12, 3) := by decide +kernel
theorem dX11_lookAt_295 : decode cX11_lookAt 295 = .ok (.iload 7, 2) := by decide +kernel
theorem dX11_lookAt_297 : decode cX11_lookAt 297 = .ok (.ifCond .eq 7, 3) := by decide +kernel
theorem dX11_lookAt_300 : decode cX11_lookAt 300 = .ok (.iload_n 3, 1) := by decide +kernel
theorem dX11_lookAt_301 : decode cX11_lookAt 301 = .ok (.goto 5, 3) := by decide +kernel
theorem dX11_lookAt_304 : decode cX11_lookAt 304 = .ok (.iload 5, 2) := by decide +kernel
theorem dX11_lookAt_306 : decode cX11_lookAt 306 = .ok (.iconst 1, 1) := by decide +kernel
theorem dX11_lookAt_307 : decode cX11_lookAt 307 = .ok (.bastore, 1) := by decide +kernel
theorem dX11_lookAt_308 : decode cX11_lookAt 308 = .ok (.iinc 5 1, 3) := by decide +kernel
theorem dX11_lookAt_311 : decode cX11_lookAt 311 = .ok (.goto (-167), 3) := by decide +kernel
theorem dX11_lookAt_314 : decode cX11_lookAt 314 = .ok (.return_, 1) := by decide +kernel
theorem dX11_work_0 : decode cX11_work 0 = .ok (.aload_n 0, 1) := by decide +kernel
theorem dX11_work_1 : decode cX11_work 1 = .ok (.iload_n 1, 1) := by decide +kernel
theorem dX11_work_2 : decode cX11_work 2 = .ok (.iload_n 2, 1) := by decide +kernel
theorem dX11_work_3 : decode cX11_work 3 = .ok (.invokevirtual 303, 3) := by decide +kernel
theorem dX11_work_6 : decode cX11_work 6 = .ok (.aload_n 0, 1) := by decide +kernel
theorem dX11_work_7 : decode cX11_work 7 = .ok (.invokevirtual 307, 3) := by decide +kernel
theorem dX11_work_10 : decode cX11_work 10 = .ok (.iconst 1, 1) := by decide +kernel
theorem dX11_work_11 : decode cX11_work 11 = .ok (.istore_n 3, 1) := by decide +kernel
theorem dX11_work_12 : decode cX11_work 12 = .ok (.iload_n 3, 1) := by decide +kernel
theorem dX11_work_13 : decode cX11_work 13 = .ok (.ifCond .eq 39, 3) := by decide +kernel
theorem dX11_work_16 : decode cX11_work 16 = .ok (.aload_n 0, 1) := by decide +kernel
theorem dX11_work_17 : decode cX11_work 17 = .ok (.invokevirtual 296, 3) := by decide +kernel
theorem dX11_work_20 : decode cX11_work 20 = .ok (.iconst 0, 1) := by decide +kernel
theorem dX11_work_21 : decode cX11_work 21 = .ok (.istore 4, 2) := by decide +kernel
theorem dX11_work_23 : decode cX11_work 23 = .ok (.iload 4, 2) := by decide +kernel
theorem dX11_work_25 : decode cX11_work 25 = .ok (.aload_n 0, 1) := by decide +kernel
theorem dX11_work_26 : decode cX11_work 26 = .ok (.getfield 139, 3) := by decide +kernel
theorem dX11_work_29 : decode cX11_work 29 = .ok (.if_icmp .ge 15, 3) := by decide +kernel
theorem dX11_work_32 : decode cX11_work 32 = .ok (.aload_n 0, 1) := by decide +kernel
theorem dX11_work_33 : decode cX11_work 33 = .ok (.iload 4, 2) := by decide +kernel
theorem dX11_work_35 : decode cX11_work 35 = .ok (.invokevirtual 310, 3) := by decide +kernel
theorem dX11_work_38 : decode cX11_work 38 = .ok (.iinc 4 1, 3) := by decide +kernel
theorem dX11_work_41 : decode cX11_work 41 = .ok (.goto (-18), 3) := by decide +kernel
theorem dX11_work_44 : decode cX11_work 44 = .ok (.aload_n 0, 1) := by decide +kernel
theorem dX11_work_45 : decode cX11_work 45 = .ok (.invokevirtual 299, 3) := by decide +kernel
theorem dX11_work_48 : decode cX11_work 48 = .ok (.istore_n 3, 1) := by decide +kernel
theorem dX11_work_49 : decode cX11_work 49 = .ok (.goto (-37), 3) := by decide +kernel
theorem dX11_work_52 : decode cX11_work 52 = .ok (.iconst 0, 1) := by decide +kernel
theorem dX11_work_53 : decode cX11_work 53 = .ok (.istore 4, 2) := by decide +kernel
theorem dX11_work_55 : decode cX11_work 55 = .ok (.iload 4, 2) := by decide +kernel
theorem dX11_work_57 : decode cX11_work 57 = .ok (.bipush 6, 2) := by decide +kernel
theorem dX11_work_59 : decode cX11_work 59 = .ok (.if_icmp .ge 23, 3) := by decide +kernel
theorem dX11_work_62 : decode cX11_work 62 = .ok (.aload_n 0, 1) := by decide +kernel
theorem dX11_work_63 : decode cX11_work 63 = .ok (.getfield 22, 3) := by decide +kernel
theorem dX11_work_66 : decode cX11_work 66 = .ok (.iload 4, 2) := by decide +kernel
theorem dX11_work_68 : decode cX11_work 68 = .ok (.aload_n 0, 1) := by decide +kernel
theorem dX11_work_69 : decode cX11_work 69 = .ok (.getfield 56, 3) := by decide +kernel
theorem dX11_work_72 : decode cX11_work 72 = .ok (.iload 4, 2) := by decide +kernel
theorem dX11_work_74 : decode cX11_work 74 = .ok (.iaload, 1) := by decide +kernel
theorem dX11_work_75 : decode cX11_work 75 = .ok (.iastore, 1) := by decide +kernel
theorem dX11_work_76 : decode cX11_work 76 = .ok (.iinc 4 1, 3) := by decide +kernel
theorem dX11_work_79 : decode cX11_work 79 = .ok (.goto (-24), 3) := by decide +kernel
theorem dX11_work_82 : decode cX11_work 82 = .ok (.return_, 1) := by decide +kernel
theorem dX11_moveNow_0 : decode cX11_moveNow 0 = .ok (.iconst 0, 1) := by decide +kernel
theorem dX11_moveNow_1 : decode cX11_moveNow 1 = .ok (.istore_n 3, 1) := by decide +kernel
theorem dX11_moveNow_2 : decode cX11_moveNow 2 = .ok (.iload_n 3, 1) := by decide +kernel
theorem dX11_moveNow_3 : decode cX11_moveNow 3 = .ok (.bipush 6, 2) := by decide +kernel
theorem dX11_moveNow_5 : decode cX11_moveNow 5 = .ok (.if_icmp .ge 38, 3) := by decide +kernel
theorem dX11_moveNow_8 : decode cX11_moveNow 8 = .ok (.aload_n 0, 1) := by decide +kernel
theorem dX11_moveNow_9 : decode cX11_moveNow 9 = .ok (.getfield 34, 3) := by decide +kernel
theorem dX11_moveNow_12 : decode cX11_moveNow 12 = .ok (.bipush 6, 2) := by decide +kernel
theorem dX11_moveNow_14 : decode cX11_moveNow 14 = .ok (.aload_n 0, 1) := by decide +kernel
theorem dX11_moveNow_15 : decode cX11_moveNow 15 = .ok (.getfield 245, 3) := by decide +kernel
theorem dX11_moveNow_18 : decode cX11_moveNow 18 = .ok (.imul, 1) := by decide +kernel
theorem dX11_moveNow_19 : decode cX11_moveNow 19 = .ok (.iload_n 3, 1) := by decide +kernel
theorem dX11_moveNow_20 : decode cX11_moveNow 20 = .ok (.iadd, 1) := by decide +kernel
theorem dX11_moveNow_21 : decode cX11_moveNow 21 = .ok (.aload_n 0, 1) := by decide +kernel
theorem dX11_moveNow_22 : decode cX11_moveNow 22 = .ok (.iload_n 3, 1) := by decide +kernel
theorem dX11_moveNow_23 : decode cX11_moveNow 23 = .ok (.iconst 3, 1) := by decide +kernel
theorem dX11_moveNow_24 : decode cX11_moveNow 24 = .ok (.if_icmp .ge 7, 3) := by decide +kernel
theorem dX11_moveNow_27 : decode cX11_moveNow 27 = .ok (.iload_n 1, 1) := by decide +kernel
theorem dX11_moveNow_28 : decode cX11_moveNow 28 = .ok (.goto 4, 3) := by decide +kernel
theorem dX11_moveNow_31 : decode cX11_moveNow 31 = .ok (.iload_n 2, 1) := by decide +kernel
theorem dX11_moveNow_32 : decode cX11_moveNow 32 = .ok (.iload_n 3, 1) := by decide +kernel
theorem dX11_moveNow_33 : decode cX11_moveNow 33 = .ok (.invokevirtual 275, 3) := by decide +kernel
theorem dX11_moveNow_36 : decode cX11_moveNow 36 = .ok (.iastore, 1) := by decide +kernel
theorem dX11_moveNow_37 : decode cX11_moveNow 37 = .ok (.iinc 3 1, 3) := by decide +kernel
theorem dX11_moveNow_40 : decode cX11_moveNow 40 = .ok (.goto (-38), 3) := by decide +kernel
theorem dX11_moveNow_43 : decode cX11_moveNow 43 = .ok (.aload_n 0, 1) := by decide +kernel
theorem dX11_moveNow_44 : decode cX11_moveNow 44 = .ok (.getfield 28, 3) := by decide +kernel
theorem dX11_moveNow_47 : decode cX11_moveNow 47 = .ok (.aload_n 0, 1) := by decide +kernel
theorem dX11_moveNow_48 : decode cX11_moveNow 48 = .ok (.getfield 245, 3) := by decide +kernel
theorem dX11_moveNow_51 : decode cX11_moveNow 51 = .ok (.iload_n 1, 1) := by decide +kernel
theorem dX11_moveNow_52 : decode cX11_moveNow 52 = .ok (.iastore, 1) := by decide +kernel
theorem dX11_moveNow_53 : decode cX11_moveNow 53 = .ok (.aload_n 0, 1) := by decide +kernel
theorem dX11_moveNow_54 : decode cX11_moveNow 54 = .ok (.getfield 31, 3) := by decide +kernel
theorem dX11_moveNow_57 : decode cX11_moveNow 57 = .ok (.aload_n 0, 1) := by decide +kernel
theorem dX11_moveNow_58 : decode cX11_moveNow 58 = .ok (.getfield 245, 3) := by decide +kernel
theorem dX11_moveNow_61 : decode cX11_moveNow 61 = .ok (.iload_n 2, 1) := by decide +kernel
theorem dX11_moveNow_62 : decode cX11_moveNow 62 = .ok (.iastore, 1) := by decide +kernel
theorem dX11_moveNow_63 : decode cX11_moveNow 63 = .ok (.aload_n 0, 1) := by decide +kernel
theorem dX11_moveNow_64 : decode cX11_moveNow 64 = .ok (.dup, 1) := by decide +kernel
theorem dX11_moveNow_65 : decode cX11_moveNow 65 = .ok (.getfield 245, 3) := by decide +kernel
theorem dX11_moveNow_68 : decode cX11_moveNow 68 = .ok (.iconst 1, 1) := by decide +kernel
theorem dX11_moveNow_69 : decode cX11_moveNow 69 = .ok (.iadd, 1) := by decide +kernel
theorem dX11_moveNow_70 : decode cX11_moveNow 70 = .ok (.putfield 245, 3) := by decide +kernel
theorem dX11_moveNow_73 : decode cX11_moveNow 73 = .ok (.aload_n 0, 1) := by decide +kernel
theorem dX11_moveNow_74 : decode cX11_moveNow 74 = .ok (.iload_n 1, 1) := by decide +kernel
theorem dX11_moveNow_75 : decode cX11_moveNow 75 = .ok (.iload_n 2, 1) := by decide +kernel
theorem dX11_moveNow_76 : decode cX11_moveNow 76 = .ok (.invokevirtual 314, 3) := by decide +kernel
theorem dX11_moveNow_79 : decode cX11_moveNow 79 = .ok (.return_, 1) := by decide +kernel
theorem dX11_move_0 : decode cX11_move 0 = .ok (.aload_n 0, 1) := by decide +kernel
theorem dX11_move_1 : decode cX11_move 1 = .ok (.iload_n 1, 1) := by decide +kernel
theorem dX11_move_2 : decode cX11_move 2 = .ok (.iload_n 2, 1) := by decide +kernel
theorem dX11_move_3 : decode cX11_move 3 = .ok (.invokevirtual 317, 3) := by decide +kernel
theorem dX11_move_6 : decode cX11_move 6 = .ok (.ifCond .ne 7, 3) := by decide +kernel
theorem dX11_move_9 : decode cX11_move 9 = .ok (.ldc_w 266, 3) := by decide +kernel
theorem dX11_move_12 : decode cX11_move 12 = .ok (.ireturn, 1) := by decide +kernel
theorem dX11_move_13 : decode cX11_move 13 = .ok (.aload_n 0, 1) := by decide +kernel
theorem dX11_move_14 : decode cX11_move 14 = .ok (.invokevirtual 260, 3) := by decide +kernel
theorem dX11_move_17 : decode cX11_move 17 = .ok (.ifCond .eq 7, 3) := by decide +kernel
theorem dX11_move_20 : decode cX11_move 20 = .ok (.ldc_w 320, 3) := by decide +kernel
theorem dX11_move_23 : decode cX11_move 23 = .ok (.ireturn, 1) := by decide +kernel
theorem dX11_move_24 : decode cX11_move 24 = .ok (.aload_n 0, 1) := by decide +kernel
theorem dX11_move_25 : decode cX11_move 25 = .ok (.getfield 245, 3) := by decide +kernel
theorem dX11_move_28 : decode cX11_move 28 = .ok (.bipush 60, 2) := by decide +kernel
theorem dX11_move_30 : decode cX11_move 30 = .ok (.if_icmp .ne 6, 3) := by decide +kernel
theorem dX11_move_33 : decode cX11_move 33 = .ok (.ldc 156, 2) := by decide +kernel
theorem dX11_move_35 : decode cX11_move 35 = .ok (.ireturn, 1) := by decide +kernel
theorem dX11_move_36 : decode cX11_move 36 = .ok (.aload_n 0, 1) := by decide +kernel
theorem dX11_move_37 : decode cX11_move 37 = .ok (.iload_n 1, 1) := by decide +kernel
theorem dX11_move_38 : decode cX11_move 38 = .ok (.invokestatic 321, 3) := by decide +kernel
theorem dX11_move_41 : decode cX11_move 41 = .ok (.iload_n 2, 1) := by decide +kernel
theorem dX11_move_42 : decode cX11_move 42 = .ok (.invokestatic 321, 3) := by decide +kernel
theorem dX11_move_45 : decode cX11_move 45 = .ok (.invokevirtual 324, 3) := by decide +kernel
theorem dX11_move_48 : decode cX11_move 48 = .ok (.aload_n 0, 1) := by decide +kernel
theorem dX11_move_49 : decode cX11_move 49 = .ok (.invokevirtual 260, 3) := by decide +kernel
theorem dX11_move_52 : decode cX11_move 52 = .ok (.ireturn, 1) := by decide +kernel
theorem dX11_draw_0 : decode cX11_draw 0 = .ok (.aload_n 0, 1) := by decide +kernel
theorem dX11_draw_1 : decode cX11_draw 1 = .ok (.aload_n 0, 1) := by decide +kernel
theorem dX11_draw_2 : decode cX11_draw 2 = .ok (.getfield 327, 3) := by decide +kernel
theorem dX11_draw_5 : decode cX11_draw 5 = .ok (.i2l, 1) := by decide +kernel
theorem dX11_draw_6 : decode cX11_draw 6 = .ok (.ldc2_w 330, 3) := by decide +kernel
theorem dX11_draw_9 : decode cX11_draw 9 = .ok (.lmul, 1) := by decide +kernel
theorem dX11_draw_10 : decode cX11_draw 10 = .ok (.ldc2_w 332, 3) := by decide +kernel
theorem dX11_draw_13 : decode cX11_draw 13 = .ok (.ladd, 1) := by decide +kernel
theorem dX11_draw_14 : decode cX11_draw 14 = .ok (.ldc2_w 334, 3) := by decide +kernel
theorem dX11_draw_17 : decode cX11_draw 17 = .ok (.lrem, 1) := by decide +kernel
theorem dX11_draw_18 : decode cX11_draw 18 = .ok (.l2i, 1) := by decide +kernel
theorem dX11_draw_19 : decode cX11_draw 19 = .ok (.putfield 327, 3) := by decide +kernel
theorem dX11_draw_22 : decode cX11_draw 22 = .ok (.aload_n 0, 1) := by decide +kernel
theorem dX11_draw_23 : decode cX11_draw 23 = .ok (.getfield 327, 3) := by decide +kernel
theorem dX11_draw_26 : decode cX11_draw 26 = .ok (.ldc_w 336, 3) := by decide +kernel
theorem dX11_draw_29 : decode cX11_draw 29 = .ok (.idiv, 1) := by decide +kernel
theorem dX11_draw_30 : decode cX11_draw 30 = .ok (.iload_n 1, 1) := by decide +kernel
theorem dX11_draw_31 : decode cX11_draw 31 = .ok (.irem, 1) := by decide +kernel
theorem dX11_draw_32 : decode cX11_draw 32 = .ok (.ireturn, 1) := by decide +kernel
theorem dX11_drift_0 : decode cX11_drift 0 = .ok (.iload_n 1, 1) := by decide +kernel
theorem dX11_drift_1 : decode cX11_drift 1 = .ok (.i2l, 1) := by decide +kernel
theorem dX11_drift_2 : decode cX11_drift 2 = .ok (.lconst 1, 1) := by decide +kernel
theorem dX11_drift_3 : decode cX11_drift 3 = .ok (.ldc2_w 337, 3) := by decide +kernel
theorem dX11_drift_6 : decode cX11_drift 6 = .ok (.invokestatic 142, 3) := by decide +kernel
theorem dX11_drift_9 : decode cX11_drift 9 = .ok (.ifCond .ne 6, 3) := by decide +kernel
theorem dX11_drift_12 : decode cX11_drift 12 = .ok (.ldc 152, 2) := by decide +kernel
theorem dX11_drift_14 : decode cX11_drift 14 = .ok (.ireturn, 1) := by decide +kernel
theorem dX11_drift_15 : decode cX11_drift 15 = .ok (.aload_n 0, 1) := by decide +kernel
theorem dX11_drift_16 : decode cX11_drift 16 = .ok (.invokevirtual 260, 3) := by decide +kernel
theorem dX11_drift_19 : decode cX11_drift 19 = .ok (.ifCond .eq 7, 3) := by decide +kernel
theorem dX11_drift_22 : decode cX11_drift 22 = .ok (.ldc_w 320, 3) := by decide +kernel
theorem dX11_drift_25 : decode cX11_drift 25 = .ok (.ireturn, 1) := by decide +kernel
theorem dX11_drift_26 : decode cX11_drift 26 = .ok (.iconst 0, 1) := by decide +kernel
theorem dX11_drift_27 : decode cX11_drift 27 = .ok (.istore_n 2, 1) := by decide +kernel
theorem dX11_drift_28 : decode cX11_drift 28 = .ok (.iload_n 2, 1) := by decide +kernel
theorem dX11_drift_29 : decode cX11_drift 29 = .ok (.iload_n 1, 1) := by decide +kernel
theorem dX11_drift_30 : decode cX11_drift 30 = .ok (.if_icmp .ge 62, 3) := by decide +kernel
theorem dX11_drift_33 : decode cX11_drift 33 = .ok (.aload_n 0, 1) := by decide +kernel
theorem dX11_drift_34 : decode cX11_drift 34 = .ok (.invokevirtual 260, 3) := by decide +kernel
theorem dX11_drift_37 : decode cX11_drift 37 = .ok (.ifCond .ne 55, 3) := by decide +kernel
theorem dX11_drift_40 : decode cX11_drift 40 = .ok (.aload_n 0, 1) := by decide +kernel
theorem dX11_drift_41 : decode cX11_drift 41 = .ok (.getfield 245, 3) := by decide +kernel
theorem dX11_drift_44 : decode cX11_drift 44 = .ok (.bipush 60, 2) := by decide +kernel
theorem dX11_drift_46 : decode cX11_drift 46 = .ok (.if_icmp .ne 6, 3) := by decide +kernel
theorem dX11_drift_49 : decode cX11_drift 49 = .ok (.ldc 156, 2) := by decide +kernel
theorem dX11_drift_51 : decode cX11_drift 51 = .ok (.ireturn, 1) := by decide +kernel
theorem dX11_drift_52 : decode cX11_drift 52 = .ok (.aload_n 0, 1) := by decide +kernel
theorem dX11_drift_53 : decode cX11_drift 53 = .ok (.iconst 0, 1) := by decide +kernel
theorem dX11_drift_54 : decode cX11_drift 54 = .ok (.aload_n 0, 1) := by decide +kernel
theorem dX11_drift_55 : decode cX11_drift 55 = .ok (.aload_n 0, 1) := by decide +kernel
theorem dX11_drift_56 : decode cX11_drift 56 = .ok (.iconst 0, 1) := by decide +kernel
theorem dX11_drift_57 : decode cX11_drift 57 = .ok (.invokevirtual 284, 3) := by decide +kernel
theorem dX11_drift_60 : decode cX11_drift 60 = .ok (.invokevirtual 339, 3) := by decide +kernel
theorem dX11_drift_63 : decode cX11_drift 63 = .ok (.invokevirtual 287, 3) := by decide +kernel
theorem dX11_drift_66 : decode cX11_drift 66 = .ok (.istore_n 3, 1) := by decide +kernel
theorem dX11_drift_67 : decode cX11_drift 67 = .ok (.aload_n 0, 1) := by decide +kernel
theorem dX11_drift_68 : decode cX11_drift 68 = .ok (.iload_n 3, 1) := by decide +kernel
theorem dX11_drift_69 : decode cX11_drift 69 = .ok (.aload_n 0, 1) := by decide +kernel
theorem dX11_drift_70 : decode cX11_drift 70 = .ok (.iconst 1, 1) := by decide +kernel
theorem dX11_drift_71 : decode cX11_drift 71 = .ok (.aload_n 0, 1) := by decide +kernel
theorem dX11_drift_72 : decode cX11_drift 72 = .ok (.aload_n 0, 1) := by decide +kernel
theorem dX11_drift_73 : decode cX11_drift 73 = .ok (.iconst 1, 1) := by decide +kernel
theorem dX11_drift_74 : decode cX11_drift 74 = .ok (.invokevirtual 284, 3) := by decide +kernel
theorem dX11_drift_77 : decode cX11_drift 77 = .ok (.invokevirtual 339, 3) := by decide +kernel
theorem dX11_drift_80 : decode cX11_drift 80 = .ok (.invokevirtual 287, 3) := by decide +kernel
theorem dX11_drift_83 : decode cX11_drift 83 = .ok (.invokevirtual 324, 3) := by decide +kernel
theorem dX11_drift_86 : decode cX11_drift 86 = .ok (.iinc 2 1, 3) := by decide +kernel
theorem dX11_drift_89 : decode cX11_drift 89 = .ok (.goto (-61), 3) := by decide +kernel
theorem dX11_drift_92 : decode cX11_drift 92 = .ok (.aload_n 0, 1) := by decide +kernel
theorem dX11_drift_93 : decode cX11_drift 93 = .ok (.invokevirtual 260, 3) := by decide +kernel
theorem dX11_drift_96 : decode cX11_drift 96 = .ok (.ireturn, 1) := by decide +kernel
theorem dX11_begin_0 : decode cX11_begin 0 = .ok (.aload_n 0, 1) := by decide +kernel
theorem dX11_begin_1 : decode cX11_begin 1 = .ok (.getfield 245, 3) := by decide +kernel
theorem dX11_begin_4 : decode cX11_begin 4 = .ok (.istore_n 1, 1) := by decide +kernel
theorem dX11_begin_5 : decode cX11_begin 5 = .ok (.aload_n 0, 1) := by decide +kernel
theorem dX11_begin_6 : decode cX11_begin 6 = .ok (.iconst 0, 1) := by decide +kernel
theorem dX11_begin_7 : decode cX11_begin 7 = .ok (.putfield 245, 3) := by decide +kernel
theorem dX11_begin_10 : decode cX11_begin 10 = .ok (.iconst 0, 1) := by decide +kernel
theorem dX11_begin_11 : decode cX11_begin 11 = .ok (.istore_n 2, 1) := by decide +kernel
theorem dX11_begin_12 : decode cX11_begin 12 = .ok (.iload_n 2, 1) := by decide +kernel
theorem dX11_begin_13 : decode cX11_begin 13 = .ok (.bipush 6, 2) := by decide +kernel
theorem dX11_begin_15 : decode cX11_begin 15 = .ok (.if_icmp .ge 21, 3) := by decide +kernel
theorem dX11_begin_18 : decode cX11_begin 18 = .ok (.aload_n 0, 1) := by decide +kernel
theorem dX11_begin_19 : decode cX11_begin 19 = .ok (.getfield 22, 3) := by decide +kernel
theorem dX11_begin_22 : decode cX11_begin 22 = .ok (.iload_n 2, 1) := by decide +kernel
theorem dX11_begin_23 : decode cX11_begin 23 = .ok (.aload_n 0, 1) := by decide +kernel
theorem dX11_begin_24 : decode cX11_begin 24 = .ok (.getfield 19, 3) := by decide +kernel
theorem dX11_begin_27 : decode cX11_begin 27 = .ok (.iload_n 2, 1) := by decide +kernel
theorem dX11_begin_28 : decode cX11_begin 28 = .ok (.iaload, 1) := by decide +kernel
theorem dX11_begin_29 : decode cX11_begin 29 = .ok (.iastore, 1) := by decide +kernel
theorem dX11_begin_30 : decode cX11_begin 30 = .ok (.iinc 2 1, 3) := by decide +kernel
theorem dX11_begin_33 : decode cX11_begin 33 = .ok (.goto (-21), 3) := by decide +kernel
theorem dX11_begin_36 : decode cX11_begin 36 = .ok (.iload_n 1, 1) := by decide +kernel
theorem dX11_begin_37 : decode cX11_begin 37 = .ok (.ireturn, 1) := by decide +kernel
theorem dX11_save_0 : decode cX11_save 0 = .ok (.iconst 0, 1) := by decide +kernel
theorem dX11_save_1 : decode cX11_save 1 = .ok (.istore_n 1, 1) := by decide +kernel
theorem dX11_save_2 : decode cX11_save 2 = .ok (.iload_n 1, 1) := by decide +kernel
theorem dX11_save_3 : decode cX11_save 3 = .ok (.bipush 6, 2) := by decide +kernel
theorem dX11_save_5 : decode cX11_save 5 = .ok (.if_icmp .ge 21, 3) := by decide +kernel
theorem dX11_save_8 : decode cX11_save 8 = .ok (.aload_n 0, 1) := by decide +kernel
theorem dX11_save_9 : decode cX11_save 9 = .ok (.getfield 69, 3) := by decide +kernel
theorem dX11_save_12 : decode cX11_save 12 = .ok (.iload_n 1, 1) := by decide +kernel
theorem dX11_save_13 : decode cX11_save 13 = .ok (.aload_n 0, 1) := by decide +kernel
theorem dX11_save_14 : decode cX11_save 14 = .ok (.getfield 22, 3) := by decide +kernel
theorem dX11_save_17 : decode cX11_save 17 = .ok (.iload_n 1, 1) := by decide +kernel
theorem dX11_save_18 : decode cX11_save 18 = .ok (.iaload, 1) := by decide +kernel
theorem dX11_save_19 : decode cX11_save 19 = .ok (.iastore, 1) := by decide +kernel
theorem dX11_save_20 : decode cX11_save 20 = .ok (.iinc 1 1, 3) := by decide +kernel
theorem dX11_save_23 : decode cX11_save 23 = .ok (.goto (-21), 3) := by decide +kernel
theorem dX11_save_26 : decode cX11_save 26 = .ok (.return_, 1) := by decide +kernel
theorem dX11_load_0 : decode cX11_load 0 = .ok (.iconst 0, 1) := by decide +kernel
theorem dX11_load_1 : decode cX11_load 1 = .ok (.istore_n 1, 1) := by decide +kernel
theorem dX11_load_2 : decode cX11_load 2 = .ok (.iload_n 1, 1) := by decide +kernel
theorem dX11_load_3 : decode cX11_load 3 = .ok (.bipush 6, 2) := by decide +kernel
theorem dX11_load_5 : decode cX11_load 5 = .ok (.if_icmp .ge 21, 3) := by decide +kernel
theorem dX11_load_8 : decode cX11_load 8 = .ok (.aload_n 0, 1) := by decide +kernel
theorem dX11_load_9 : decode cX11_load 9 = .ok (.getfield 22, 3) := by decide +kernel
theorem dX11_load_12 : decode cX11_load 12 = .ok (.iload_n 1, 1) := by decide +kernel
theorem dX11_load_13 : decode cX11_load 13 = .ok (.aload_n 0, 1) := by decide +kernel
theorem dX11_load_14 : decode cX11_load 14 = .ok (.getfield 69, 3) := by decide +kernel
theorem dX11_load_17 : decode cX11_load 17 = .ok (.iload_n 1, 1) := by decide +kernel
theorem dX11_load_18 : decode cX11_load 18 = .ok (.iaload, 1) := by decide +kernel
theorem dX11_load_19 : decode cX11_load 19 = .ok (.iastore, 1) := by decide +kernel
theorem dX11_load_20 : decode cX11_load 20 = .ok (.iinc 1 1, 3) := by decide +kernel
theorem dX11_load_23 : decode cX11_load 23 = .ok (.goto (-21), 3) := by decide +kernel
theorem dX11_load_26 : decode cX11_load 26 = .ok (.return_, 1) := by decide +kernel
theorem dX11_tried_0 : decode cX11_tried 0 = .ok (.aload_n 0, 1) := by decide +kernel
theorem dX11_tried_1 : decode cX11_tried 1 = .ok (.iload_n 1, 1) := by decide +kernel
theorem dX11_tried_2 : decode cX11_tried 2 = .ok (.iload_n 2, 1) := by decide +kernel
theorem dX11_tried_3 : decode cX11_tried 3 = .ok (.invokevirtual 317, 3) := by decide +kernel
theorem dX11_tried_6 : decode cX11_tried 6 = .ok (.ifCond .eq 32, 3) := by decide +kernel
theorem dX11_tried_9 : decode cX11_tried 9 = .ok (.iload_n 3, 1) := by decide +kernel
theorem dX11_tried_10 : decode cX11_tried 10 = .ok (.i2l, 1) := by decide +kernel
theorem dX11_tried_11 : decode cX11_tried 11 = .ok (.lconst 1, 1) := by decide +kernel
theorem dX11_tried_12 : decode cX11_tried 12 = .ok (.ldc2_w 342, 3) := by decide +kernel
theorem dX11_tried_15 : decode cX11_tried 15 = .ok (.invokestatic 142, 3) := by decide +kernel
theorem dX11_tried_18 : decode cX11_tried 18 = .ok (.ifCond .eq 24, 3) := by decide +kernel
theorem dX11_tried_21 : decode cX11_tried 21 = .ok (.aload_n 0, 1) := by decide +kernel
theorem dX11_tried_22 : decode cX11_tried 22 = .ok (.iload_n 3, 1) := by decide +kernel
theorem dX11_tried_23 : decode cX11_tried 23 = .ok (.iconst 1, 1) := by decide +kernel
theorem dX11_tried_24 : decode cX11_tried 24 = .ok (.isub, 1) := by decide +kernel
theorem dX11_tried_25 : decode cX11_tried 25 = .ok (.iconst 3, 1) := by decide +kernel
theorem dX11_tried_26 : decode cX11_tried 26 = .ok (.idiv, 1) := by decide +kernel
theorem dX11_tried_27 : decode cX11_tried 27 = .ok (.iload_n 3, 1) := by decide +kernel
theorem dX11_tried_28 : decode cX11_tried 28 = .ok (.iconst 1, 1) := by decide +kernel
theorem dX11_tried_29 : decode cX11_tried 29 = .ok (.isub, 1) := by decide +kernel
theorem dX11_tried_30 : decode cX11_tried 30 = .ok (.iconst 3, 1) := by decide +kernel
theorem dX11_tried_31 : decode cX11_tried 31 = .ok (.irem, 1) := by decide +kernel
theorem dX11_tried_32 : decode cX11_tried 32 = .ok (.invokevirtual 267, 3) := by decide +kernel
theorem dX11_tried_35 : decode cX11_tried 35 = .ok (.ifCond .ne 7, 3) := by decide +kernel
theorem dX11_tried_38 : decode cX11_tried 38 = .ok (.ldc_w 266, 3) := by decide +kernel
theorem dX11_tried_41 : decode cX11_tried 41 = .ok (.ireturn, 1) := by decide +kernel
theorem dX11_tried_42 : decode cX11_tried 42 = .ok (.iload_n 3, 1) := by decide +kernel
theorem dX11_tried_43 : decode cX11_tried 43 = .ok (.i2l, 1) := by decide +kernel
theorem dX11_tried_44 : decode cX11_tried 44 = .ok (.lconst 0, 1) := by decide +kernel
theorem dX11_tried_45 : decode cX11_tried 45 = .ok (.ldc2_w 342, 3) := by decide +kernel
theorem dX11_tried_48 : decode cX11_tried 48 = .ok (.invokestatic 142, 3) := by decide +kernel
theorem dX11_tried_51 : decode cX11_tried 51 = .ok (.ifCond .ne 6, 3) := by decide +kernel
theorem dX11_tried_54 : decode cX11_tried 54 = .ok (.ldc 152, 2) := by decide +kernel
theorem dX11_tried_56 : decode cX11_tried 56 = .ok (.ireturn, 1) := by decide +kernel
theorem dX11_tried_57 : decode cX11_tried 57 = .ok (.aload_n 0, 1) := by decide +kernel
theorem dX11_tried_58 : decode cX11_tried 58 = .ok (.invokevirtual 260, 3) := by decide +kernel
theorem dX11_tried_61 : decode cX11_tried 61 = .ok (.ifCond .eq 7, 3) := by decide +kernel
theorem dX11_tried_64 : decode cX11_tried 64 = .ok (.ldc_w 320, 3) := by decide +kernel
theorem dX11_tried_67 : decode cX11_tried 67 = .ok (.ireturn, 1) := by decide +kernel
theorem dX11_tried_68 : decode cX11_tried 68 = .ok (.aload_n 0, 1) := by decide +kernel
theorem dX11_tried_69 : decode cX11_tried 69 = .ok (.invokevirtual 344, 3) := by decide +kernel
theorem dX11_tried_72 : decode cX11_tried 72 = .ok (.aload_n 0, 1) := by decide +kernel
theorem dX11_tried_73 : decode cX11_tried 73 = .ok (.iload_n 1, 1) := by decide +kernel
theorem dX11_tried_74 : decode cX11_tried 74 = .ok (.invokestatic 321, 3) := by decide +kernel
theorem dX11_tried_77 : decode cX11_tried 77 = .ok (.iload_n 2, 1) := by decide +kernel
theorem dX11_tried_78 : decode cX11_tried 78 = .ok (.invokestatic 321, 3) := by decide +kernel
theorem dX11_tried_81 : decode cX11_tried 81 = .ok (.invokevirtual 314, 3) := by decide +kernel
theorem dX11_tried_84 : decode cX11_tried 84 = .ok (.iload_n 3, 1) := by decide +kernel
theorem dX11_tried_85 : decode cX11_tried 85 = .ok (.ifCond .ne 10, 3) := by decide +kernel
theorem dX11_tried_88 : decode cX11_tried 88 = .ok (.aload_n 0, 1) := by decide +kernel
theorem dX11_tried_89 : decode cX11_tried 89 = .ok (.invokevirtual 260, 3) := by decide +kernel
theorem dX11_tried_92 : decode cX11_tried 92 = .ok (.goto 11, 3) := by decide +kernel
theorem dX11_tried_95 : decode cX11_tried 95 = .ok (.aload_n 0, 1) := by decide +kernel
theorem dX11_tried_96 : decode cX11_tried 96 = .ok (.getfield 22, 3) := by decide +kernel
theorem dX11_tried_99 : decode cX11_tried 99 = .ok (.iload_n 3, 1) := by decide +kernel
theorem dX11_tried_100 : decode cX11_tried 100 = .ok (.iconst 1, 1) := by decide +kernel
theorem dX11_tried_101 : decode cX11_tried 101 = .ok (.isub, 1) := by decide +kernel
theorem dX11_tried_102 : decode cX11_tried 102 = .ok (.iaload, 1) := by decide +kernel
theorem dX11_tried_103 : decode cX11_tried 103 = .ok (.istore 4, 2) := by decide +kernel
theorem dX11_tried_105 : decode cX11_tried 105 = .ok (.aload_n 0, 1) := by decide +kernel
theorem dX11_tried_106 : decode cX11_tried 106 = .ok (.invokevirtual 347, 3) := by decide +kernel
theorem dX11_tried_109 : decode cX11_tried 109 = .ok (.iload 4, 2) := by decide +kernel
theorem dX11_tried_111 : decode cX11_tried 111 = .ok (.ireturn, 1) := by decide +kernel
theorem dX11_payNow_0 : decode cX11_payNow 0 = .ok (.aload_n 0, 1) := by decide +kernel
theorem dX11_payNow_1 : decode cX11_payNow 1 = .ok (.invokevirtual 260, 3) := by decide +kernel
theorem dX11_payNow_4 : decode cX11_payNow 4 = .ok (.istore_n 1, 1) := by decide +kernel
theorem dX11_payNow_5 : decode cX11_payNow 5 = .ok (.iload_n 1, 1) := by decide +kernel
theorem dX11_payNow_6 : decode cX11_payNow 6 = .ok (.iconst 1, 1) := by decide +kernel
theorem dX11_payNow_7 : decode cX11_payNow 7 = .ok (.if_icmp .ne 9, 3) := by decide +kernel
theorem dX11_payNow_10 : decode cX11_payNow 10 = .ok (.sipush 1000, 3) := by decide +kernel
theorem dX11_payNow_13 : decode cX11_payNow 13 = .ok (.goto 41, 3) := by decide +kernel
theorem dX11_payNow_16 : decode cX11_payNow 16 = .ok (.iload_n 1, 1) := by decide +kernel
theorem dX11_payNow_17 : decode cX11_payNow 17 = .ok (.iconst 2, 1) := by decide +kernel
theorem dX11_payNow_18 : decode cX11_payNow 18 = .ok (.if_icmp .ne 7, 3) := by decide +kernel
theorem dX11_payNow_21 : decode cX11_payNow 21 = .ok (.iconst 0, 1) := by decide +kernel
theorem dX11_payNow_22 : decode cX11_payNow 22 = .ok (.goto 32, 3) := by decide +kernel
theorem dX11_payNow_25 : decode cX11_payNow 25 = .ok (.iload_n 1, 1) := by decide +kernel
theorem dX11_payNow_26 : decode cX11_payNow 26 = .ok (.iconst 3, 1) := by decide +kernel
theorem dX11_payNow_27 : decode cX11_payNow 27 = .ok (.if_icmp .ne 9, 3) := by decide +kernel
theorem dX11_payNow_30 : decode cX11_payNow 30 = .ok (.sipush 500, 3) := by decide +kernel
theorem dX11_payNow_33 : decode cX11_payNow 33 = .ok (.goto 21, 3) := by decide +kernel
theorem dX11_payNow_36 : decode cX11_payNow 36 = .ok (.sipush 500, 3) := by decide +kernel
theorem dX11_payNow_39 : decode cX11_payNow 39 = .ok (.bipush 100, 2) := by decide +kernel
theorem dX11_payNow_41 : decode cX11_payNow 41 = .ok (.aload_n 0, 1) := by decide +kernel
theorem dX11_payNow_42 : decode cX11_payNow 42 = .ok (.iconst 0, 1) := by decide +kernel
theorem dX11_payNow_43 : decode cX11_payNow 43 = .ok (.invokevirtual 254, 3) := by decide +kernel
theorem dX11_payNow_46 : decode cX11_payNow 46 = .ok (.aload_n 0, 1) := by decide +kernel
theorem dX11_payNow_47 : decode cX11_payNow 47 = .ok (.iconst 1, 1) := by decide +kernel
theorem dX11_payNow_48 : decode cX11_payNow 48 = .ok (.invokevirtual 254, 3) := by decide +kernel
theorem dX11_payNow_51 : decode cX11_payNow 51 = .ok (.isub, 1) := by decide +kernel
theorem dX11_payNow_52 : decode cX11_payNow 52 = .ok (.imul, 1) := by decide +kernel
theorem dX11_payNow_53 : decode cX11_payNow 53 = .ok (.iadd, 1) := by decide +kernel
theorem dX11_payNow_54 : decode cX11_payNow 54 = .ok (.ireturn, 1) := by decide +kernel
theorem dX11_payOf_0 : decode cX11_payOf 0 = .ok (.aload_n 0, 1) := by decide +kernel
theorem dX11_payOf_1 : decode cX11_payOf 1 = .ok (.invokevirtual 344, 3) := by decide +kernel
theorem dX11_payOf_4 : decode cX11_payOf 4 = .ok (.aload_n 0, 1) := by decide +kernel
theorem dX11_payOf_5 : decode cX11_payOf 5 = .ok (.iload_n 1, 1) := by decide +kernel
theorem dX11_payOf_6 : decode cX11_payOf 6 = .ok (.iload_n 2, 1) := by decide +kernel
theorem dX11_payOf_7 : decode cX11_payOf 7 = .ok (.invokevirtual 314, 3) := by decide +kernel
theorem dX11_payOf_10 : decode cX11_payOf 10 = .ok (.aload_n 0, 1) := by decide +kernel
theorem dX11_payOf_11 : decode cX11_payOf 11 = .ok (.invokevirtual 350, 3) := by decide +kernel
theorem dX11_payOf_14 : decode cX11_payOf 14 = .ok (.istore_n 3, 1) := by decide +kernel
theorem dX11_payOf_15 : decode cX11_payOf 15 = .ok (.aload_n 0, 1) := by decide +kernel
theorem dX11_payOf_16 : decode cX11_payOf 16 = .ok (.invokevirtual 347, 3) := by decide +kernel
theorem dX11_payOf_19 : decode cX11_payOf 19 = .ok (.iload_n 3, 1) := by decide +kernel
theorem dX11_payOf_20 : decode cX11_payOf 20 = .ok (.ireturn, 1) := by decide +kernel
theorem dX11_pays_0 : decode cX11_pays 0 = .ok (.aload_n 0, 1) := by decide +kernel
theorem dX11_pays_1 : decode cX11_pays 1 = .ok (.iload_n 1, 1) := by decide +kernel
theorem dX11_pays_2 : decode cX11_pays 2 = .ok (.iload_n 2, 1) := by decide +kernel
theorem dX11_pays_3 : decode cX11_pays 3 = .ok (.invokevirtual 317, 3) := by decide +kernel
theorem dX11_pays_6 : decode cX11_pays 6 = .ok (.ifCond .ne 7, 3) := by decide +kernel
theorem dX11_pays_9 : decode cX11_pays 9 = .ok (.ldc_w 266, 3) := by decide +kernel
theorem dX11_pays_12 : decode cX11_pays 12 = .ok (.ireturn, 1) := by decide +kernel
theorem dX11_pays_13 : decode cX11_pays 13 = .ok (.aload_n 0, 1) := by decide +kernel
theorem dX11_pays_14 : decode cX11_pays 14 = .ok (.invokevirtual 260, 3) := by decide +kernel
theorem dX11_pays_17 : decode cX11_pays 17 = .ok (.ifCond .ne 18, 3) := by decide +kernel
theorem dX11_pays_20 : decode cX11_pays 20 = .ok (.aload_n 0, 1) := by decide +kernel
theorem dX11_pays_21 : decode cX11_pays 21 = .ok (.iload_n 1, 1) := by decide +kernel
theorem dX11_pays_22 : decode cX11_pays 22 = .ok (.invokestatic 321, 3) := by decide +kernel
theorem dX11_pays_25 : decode cX11_pays 25 = .ok (.iload_n 2, 1) := by decide +kernel
theorem dX11_pays_26 : decode cX11_pays 26 = .ok (.invokestatic 321, 3) := by decide +kernel
theorem dX11_pays_29 : decode cX11_pays 29 = .ok (.invokevirtual 353, 3) := by decide +kernel
theorem dX11_pays_32 : decode cX11_pays 32 = .ok (.goto 6, 3) := by decide +kernel
theorem dX11_pays_35 : decode cX11_pays 35 = .ok (.ldc_w 320, 3) := by decide +kernel
theorem dX11_pays_38 : decode cX11_pays 38 = .ok (.ireturn, 1) := by decide +kernel
theorem dX11_isSmall_0 : decode cX11_isSmall 0 = .ok (.aload_n 0, 1) := by decide +kernel
theorem dX11_isSmall_1 : decode cX11_isSmall 1 = .ok (.invokevirtual 260, 3) := by decide +kernel
theorem dX11_isSmall_4 : decode cX11_isSmall 4 = .ok (.ifCond .ne 25, 3) := by decide +kernel
theorem dX11_isSmall_7 : decode cX11_isSmall 7 = .ok (.aload_n 0, 1) := by decide +kernel
theorem dX11_isSmall_8 : decode cX11_isSmall 8 = .ok (.iconst 0, 1) := by decide +kernel
theorem dX11_isSmall_9 : decode cX11_isSmall 9 = .ok (.invokevirtual 254, 3) := by decide +kernel
theorem dX11_isSmall_12 : decode cX11_isSmall 12 = .ok (.iconst 3, 1) := by decide +kernel
theorem dX11_isSmall_13 : decode cX11_isSmall 13 = .ok (.if_icmp .ge 16, 3) := by decide +kernel
theorem dX11_isSmall_16 : decode cX11_isSmall 16 = .ok (.aload_n 0, 1) := by decide +kernel
theorem dX11_isSmall_17 : decode cX11_isSmall 17 = .ok (.iconst 1, 1) := by decide +kernel
theorem dX11_isSmall_18 : decode cX11_isSmall 18 = .ok (.invokevirtual 254, 3) := by decide +kernel
theorem dX11_isSmall_21 : decode cX11_isSmall 21 = .ok (.iconst 3, 1) := by decide +kernel
theorem dX11_isSmall_22 : decode cX11_isSmall 22 = .ok (.if_icmp .ge 7, 3) := by decide +kernel
theorem dX11_isSmall_25 : decode cX11_isSmall 25 = .ok (.iconst 1, 1) := by decide +kernel
theorem dX11_isSmall_26 : decode cX11_isSmall 26 = .ok (.goto 4, 3) := by decide +kernel
theorem dX11_isSmall_29 : decode cX11_isSmall 29 = .ok (.iconst 0, 1) := by decide +kernel
theorem dX11_isSmall_30 : decode cX11_isSmall 30 = .ok (.ireturn, 1) := by decide +kernel
theorem dX11_listSlips_0 : decode cX11_listSlips 0 = .ok (.aload_n 0, 1) := by decide +kernel
theorem dX11_listSlips_1 : decode cX11_listSlips 1 = .ok (.iconst 0, 1) := by decide +kernel
theorem dX11_listSlips_2 : decode cX11_listSlips 2 = .ok (.putfield 356, 3) := by decide +kernel
theorem dX11_listSlips_5 : decode cX11_listSlips 5 = .ok (.aload_n 0, 1) := by decide +kernel
theorem dX11_listSlips_6 : decode cX11_listSlips 6 = .ok (.iconst 0, 1) := by decide +kernel
theorem dX11_listSlips_7 : decode cX11_listSlips 7 = .ok (.putfield 359, 3) := by decide +kernel
theorem dX11_listSlips_10 : decode cX11_listSlips 10 = .ok (.iconst 0, 1) := by decide +kernel
theorem dX11_listSlips_11 : decode cX11_listSlips 11 = .ok (.istore_n 1, 1) := by decide +kernel
theorem dX11_listSlips_12 : decode cX11_listSlips 12 = .ok (.iload_n 1, 1) := by decide +kernel
theorem dX11_listSlips_13 : decode cX11_listSlips 13 = .ok (.bipush 36, 2) := by decide +kernel
theorem dX11_listSlips_15 : decode cX11_listSlips 15 = .ok (.if_icmp .ge 67, 3) := by decide +kernel
theorem dX11_listSlips_18 : decode cX11_listSlips 18 = .ok (.aload_n 0, 1) := by decide +kernel
theorem dX11_listSlips_19 : decode cX11_listSlips 19 = .ok (.iconst 0, 1) := by decide +kernel
theorem dX11_listSlips_20 : decode cX11_listSlips 20 = .ok (.iload_n 1, 1) := by decide +kernel
theorem dX11_listSlips_21 : decode cX11_listSlips 21 = .ok (.invokevirtual 281, 3) := by decide +kernel
theorem dX11_listSlips_24 : decode cX11_listSlips 24 = .ok (.ifCond .eq 23, 3) := by decide +kernel
theorem dX11_listSlips_27 : decode cX11_listSlips 27 = .ok (.aload_n 0, 1) := by decide +kernel
theorem dX11_listSlips_28 : decode cX11_listSlips 28 = .ok (.getfield 72, 3) := by decide +kernel
theorem dX11_listSlips_31 : decode cX11_listSlips 31 = .ok (.aload_n 0, 1) := by decide +kernel
theorem dX11_listSlips_32 : decode cX11_listSlips 32 = .ok (.getfield 356, 3) := by decide +kernel
theorem dX11_listSlips_35 : decode cX11_listSlips 35 = .ok (.iload_n 1, 1) := by decide +kernel
theorem dX11_listSlips_36 : decode cX11_listSlips 36 = .ok (.iastore, 1) := by decide +kernel
theorem dX11_listSlips_37 : decode cX11_listSlips 37 = .ok (.aload_n 0, 1) := by decide +kernel
theorem dX11_listSlips_38 : decode cX11_listSlips 38 = .ok (.dup, 1) := by decide +kernel
theorem dX11_listSlips_39 : decode cX11_listSlips 39 = .ok (.getfield 356, 3) := by decide +kernel
theorem dX11_listSlips_42 : decode cX11_listSlips 42 = .ok (.iconst 1, 1) := by decide +kernel
theorem dX11_listSlips_43 : decode cX11_listSlips 43 = .ok (.iadd, 1) := by decide +kernel
theorem dX11_listSlips_44 : decode cX11_listSlips 44 = .ok (.putfield 356, 3) := by decide +kernel
theorem dX11_listSlips_47 : decode cX11_listSlips 47 = .ok (.aload_n 0, 1) := by decide +kernel
theorem dX11_listSlips_48 : decode cX11_listSlips 48 = .ok (.iconst 1, 1) := by decide +kernel
theorem dX11_listSlips_49 : decode cX11_listSlips 49 = .ok (.iload_n 1, 1) := by decide +kernel
theorem dX11_listSlips_50 : decode cX11_listSlips 50 = .ok (.invokevirtual 281, 3) := by decide +kernel
theorem dX11_listSlips_53 : decode cX11_listSlips 53 = .ok (.ifCond .eq 23, 3) := by decide +kernel
theorem dX11_listSlips_56 : decode cX11_listSlips 56 = .ok (.aload_n 0, 1) := by decide +kernel
theorem dX11_listSlips_57 : decode cX11_listSlips 57 = .ok (.getfield 75, 3) := by decide +kernel
theorem dX11_listSlips_60 : decode cX11_listSlips 60 = .ok (.aload_n 0, 1) := by decide +kernel
theorem dX11_listSlips_61 : decode cX11_listSlips 61 = .ok (.getfield 359, 3) := by decide +kernel
theorem dX11_listSlips_64 : decode cX11_listSlips 64 = .ok (.iload_n 1, 1) := by decide +kernel
theorem dX11_listSlips_65 : decode cX11_listSlips 65 = .ok (.iastore, 1) := by decide +kernel
theorem dX11_listSlips_66 : decode cX11_listSlips 66 = .ok (.aload_n 0, 1) := by decide +kernel
theorem dX11_listSlips_67 : decode cX11_listSlips 67 = .ok (.dup, 1) := by decide +kernel
theorem dX11_listSlips_68 : decode cX11_listSlips 68 = .ok (.getfield 359, 3) := by decide +kernel
theorem dX11_listSlips_71 : decode cX11_listSlips 71 = .ok (.iconst 1, 1) := by decide +kernel
theorem dX11_listSlips_72 : decode cX11_listSlips 72 = .ok (.iadd, 1) := by decide +kernel
theorem dX11_listSlips_73 : decode cX11_listSlips 73 = .ok (.putfield 359, 3) := by decide +kernel
theorem dX11_listSlips_76 : decode cX11_listSlips 76 = .ok (.iinc 1 1, 3) := by decide +kernel
theorem dX11_listSlips_79 : decode cX11_listSlips 79 = .ok (.goto (-67), 3) := by decide +kernel
theorem dX11_listSlips_82 : decode cX11_listSlips 82 = .ok (.return_, 1) := by decide +kernel
theorem dX11_findTable_0 : decode cX11_findTable 0 = .ok (.aload_n 0, 1) := by decide +kernel
theorem dX11_findTable_1 : decode cX11_findTable 1 = .ok (.invokevirtual 362, 3) := by decide +kernel
theorem dX11_findTable_4 : decode cX11_findTable 4 = .ok (.iconst 0, 1) := by decide +kernel
theorem dX11_findTable_5 : decode cX11_findTable 5 = .ok (.istore_n 1, 1) := by decide +kernel
theorem dX11_findTable_6 : decode cX11_findTable 6 = .ok (.iload_n 1, 1) := by decide +kernel
theorem dX11_findTable_7 : decode cX11_findTable 7 = .ok (.aload_n 0, 1) := by decide +kernel
theorem dX11_findTable_8 : decode cX11_findTable 8 = .ok (.getfield 356, 3) := by decide +kernel
theorem dX11_findTable_11 : decode cX11_findTable 11 = .ok (.if_icmp .ge 52, 3) := by decide +kernel
theorem dX11_findTable_14 : decode cX11_findTable 14 = .ok (.iconst 0, 1) := by decide +kernel
theorem dX11_findTable_15 : decode cX11_findTable 15 = .ok (.istore_n 2, 1) := by decide +kernel
theorem dX11_findTable_16 : decode cX11_findTable 16 = .ok (.iload_n 2, 1) := by decide +kernel
theorem dX11_findTable_17 : decode cX11_findTable 17 = .ok (.aload_n 0, 1) := by decide +kernel
theorem dX11_findTable_18 : decode cX11_findTable 18 = .ok (.getfield 359, 3) := by decide +kernel
theorem dX11_findTable_21 : decode cX11_findTable 21 = .ok (.if_icmp .ge 36, 3) := by decide +kernel
theorem dX11_findTable_24 : decode cX11_findTable 24 = .ok (.aload_n 0, 1) := by decide +kernel
theorem dX11_findTable_25 : decode cX11_findTable 25 = .ok (.getfield 78, 3) := by decide +kernel
theorem dX11_findTable_28 : decode cX11_findTable 28 = .ok (.bipush 36, 2) := by decide +kernel
theorem dX11_findTable_30 : decode cX11_findTable 30 = .ok (.iload_n 1, 1) := by decide +kernel
theorem dX11_findTable_31 : decode cX11_findTable 31 = .ok (.imul, 1) := by decide +kernel
theorem dX11_findTable_32 : decode cX11_findTable 32 = .ok (.iload_n 2, 1) := by decide +kernel
theorem dX11_findTable_33 : decode cX11_findTable 33 = .ok (.iadd, 1) := by decide +kernel
theorem dX11_findTable_34 : decode cX11_findTable 34 = .ok (.aload_n 0, 1) := by decide +kernel
theorem dX11_findTable_35 : decode cX11_findTable 35 = .ok (.aload_n 0, 1) := by decide +kernel
theorem dX11_findTable_36 : decode cX11_findTable 36 = .ok (.getfield 72, 3) := by decide +kernel
theorem dX11_findTable_39 : decode cX11_findTable 39 = .ok (.iload_n 1, 1) := by decide +kernel
theorem dX11_findTable_40 : decode cX11_findTable 40 = .ok (.iaload, 1) := by decide +kernel
theorem dX11_findTable_41 : decode cX11_findTable 41 = .ok (.aload_n 0, 1) := by decide +kernel
theorem dX11_findTable_42 : decode cX11_findTable 42 = .ok (.getfield 75, 3) := by decide +kernel
theorem dX11_findTable_45 : decode cX11_findTable 45 = .ok (.iload_n 2, 1) := by decide +kernel
theorem dX11_findTable_46 : decode cX11_findTable 46 = .ok (.iaload, 1) := by decide +kernel
theorem dX11_findTable_47 : decode cX11_findTable 47 = .ok (.invokevirtual 353, 3) := by decide +kernel
theorem dX11_findTable_50 : decode cX11_findTable 50 = .ok (.iastore, 1) := by decide +kernel
theorem dX11_findTable_51 : decode cX11_findTable 51 = .ok (.iinc 2 1, 3) := by decide +kernel
theorem dX11_findTable_54 : decode cX11_findTable 54 = .ok (.goto (-38), 3) := by decide +kernel
theorem dX11_findTable_57 : decode cX11_findTable 57 = .ok (.iinc 1 1, 3) := by decide +kernel
theorem dX11_findTable_60 : decode cX11_findTable 60 = .ok (.goto (-54), 3) := by decide +kernel
theorem dX11_findTable_63 : decode cX11_findTable 63 = .ok (.return_, 1) := by decide +kernel
theorem dX11_worstOf_0 : decode cX11_worstOf 0 = .ok (.iload_n 1, 1) := by decide +kernel
theorem dX11_worstOf_1 : decode cX11_worstOf 1 = .ok (.ifCond .ne 9, 3) := by decide +kernel
theorem dX11_worstOf_4 : decode cX11_worstOf 4 = .ok (.ldc_w 365, 3) := by decide +kernel
theorem dX11_worstOf_7 : decode cX11_worstOf 7 = .ok (.goto 4, 3) := by decide +kernel
theorem dX11_worstOf_10 : decode cX11_worstOf 10 = .ok (.iconst (-1), 1) := by decide +kernel
theorem dX11_worstOf_11 : decode cX11_worstOf 11 = .ok (.istore_n 3, 1) := by decide +kernel
theorem dX11_worstOf_12 : decode cX11_worstOf 12 = .ok (.iconst 0, 1) := by decide +kernel
theorem dX11_worstOf_13 : decode cX11_worstOf 13 = .ok (.istore 4, 2) := by decide +kernel
theorem dX11_worstOf_15 : decode cX11_worstOf 15 = .ok (.iload 4, 2) := by decide +kernel
theorem dX11_worstOf_17 : decode cX11_worstOf 17 = .ok (.iload_n 1, 1) := by decide +kernel
theorem dX11_worstOf_18 : decode cX11_worstOf 18 = .ok (.ifCond .ne 10, 3) := by decide +kernel
theorem dX11_worstOf_21 : decode cX11_worstOf 21 = .ok (.aload_n 0, 1) := by decide +kernel
theorem dX11_worstOf_22 : decode cX11_worstOf 22 = .ok (.getfield 359, 3) := by decide +kernel
theorem dX11_worstOf_25 : decode cX11_worstOf 25 = .ok (.goto 7, 3) := by decide +kernel
theorem dX11_worstOf_28 : decode cX11_worstOf 28 = .ok (.aload_n 0, 1) := by decide +kernel
theorem dX11_worstOf_29 : decode cX11_worstOf 29 = .ok (.getfield 356, 3) := by decide +kernel
theorem dX11_worstOf_32 : decode cX11_worstOf 32 = .ok (.if_icmp .ge 68, 3) := by decide +kernel
theorem dX11_worstOf_35 : decode cX11_worstOf 35 = .ok (.iload_n 1, 1) := by decide +kernel
theorem dX11_worstOf_36 : decode cX11_worstOf 36 = .ok (.ifCond .ne 18, 3) := by decide +kernel
theorem dX11_worstOf_39 : decode cX11_worstOf 39 = .ok (.aload_n 0, 1) := by decide +kernel
theorem dX11_worstOf_40 : decode cX11_worstOf 40 = .ok (.getfield 78, 3) := by decide +kernel
theorem dX11_worstOf_43 : decode cX11_worstOf 43 = .ok (.bipush 36, 2) := by decide +kernel
theorem dX11_worstOf_45 : decode cX11_worstOf 45 = .ok (.iload_n 2, 1) := by decide +kernel
theorem dX11_worstOf_46 : decode cX11_worstOf 46 = .ok (.imul, 1) := by decide +kernel
theorem dX11_worstOf_47 : decode cX11_worstOf 47 = .ok (.iload 4, 2) := by decide +kernel
theorem dX11_worstOf_49 : decode cX11_worstOf 49 = .ok (.iadd, 1) := by decide +kernel
theorem dX11_worstOf_50 : decode cX11_worstOf 50 = .ok (.iaload, 1) := by decide +kernel
theorem dX11_worstOf_51 : decode cX11_worstOf 51 = .ok (.goto 15, 3) := by decide +kernel
theorem dX11_worstOf_54 : decode cX11_worstOf 54 = .ok (.aload_n 0, 1) := by decide +kernel
theorem dX11_worstOf_55 : decode cX11_worstOf 55 = .ok (.getfield 78, 3) := by decide +kernel
theorem dX11_worstOf_58 : decode cX11_worstOf 58 = .ok (.bipush 36, 2) := by decide +kernel
theorem dX11_worstOf_60 : decode cX11_worstOf 60 = .ok (.iload 4, 2) := by decide +kernel
theorem dX11_worstOf_62 : decode cX11_worstOf 62 = .ok (.imul, 1) := by decide +kernel
theorem dX11_worstOf_63 : decode cX11_worstOf 63 = .ok (.iload_n 2, 1) := by decide +kernel
theorem dX11_worstOf_64 : decode cX11_worstOf 64 = .ok (.iadd, 1) := by decide +kernel
theorem dX11_worstOf_65 : decode cX11_worstOf 65 = .ok (.iaload, 1) := by decide +kernel
theorem dX11_worstOf_66 : decode cX11_worstOf 66 = .ok (.istore 5, 2) := by decide +kernel
theorem dX11_worstOf_68 : decode cX11_worstOf 68 = .ok (.iload_n 1, 1) := by decide +kernel
theorem dX11_worstOf_69 : decode cX11_worstOf 69 = .ok (.ifCond .ne 12, 3) := by decide +kernel
theorem dX11_worstOf_72 : decode cX11_worstOf 72 = .ok (.iload 5, 2) := by decide +kernel
theorem dX11_worstOf_74 : decode cX11_worstOf 74 = .ok (.iload_n 3, 1) := by decide +kernel
theorem dX11_worstOf_75 : decode cX11_worstOf 75 = .ok (.if_icmp .ge 17, 3) := by decide +kernel
theorem dX11_worstOf_78 : decode cX11_worstOf 78 = .ok (.goto 9, 3) := by decide +kernel
theorem dX11_worstOf_81 : decode cX11_worstOf 81 = .ok (.iload 5, 2) := by decide +kernel
theorem dX11_worstOf_83 : decode cX11_worstOf 83 = .ok (.iload_n 3, 1) := by decide +kernel
theorem dX11_worstOf_84 : decode cX11_worstOf 84 = .ok (.if_icmp .le 8, 3) := by decide +kernel
theorem dX11_worstOf_87 : decode cX11_worstOf 87 = .ok (.iload 5, 2) := by decide +kernel
theorem dX11_worstOf_89 : decode cX11_worstOf 89 = .ok (.goto 4, 3) := by decide +kernel
theorem dX11_worstOf_92 : decode cX11_worstOf 92 = .ok (.iload_n 3, 1) := by decide +kernel
theorem dX11_worstOf_93 : decode cX11_worstOf 93 = .ok (.istore_n 3, 1) := by decide +kernel
theorem dX11_worstOf_94 : decode cX11_worstOf 94 = .ok (.iinc 4 1, 3) := by decide +kernel
theorem dX11_worstOf_97 : decode cX11_worstOf 97 = .ok (.goto (-82), 3) := by decide +kernel
theorem dX11_worstOf_100 : decode cX11_worstOf 100 = .ok (.iload_n 3, 1) := by decide +kernel
theorem dX11_worstOf_101 : decode cX11_worstOf 101 = .ok (.ireturn, 1) := by decide +kernel
theorem dX11_safe_0 : decode cX11_safe 0 = .ok (.iload_n 1, 1) := by decide +kernel
theorem dX11_safe_1 : decode cX11_safe 1 = .ok (.invokestatic 146, 3) := by decide +kernel
theorem dX11_safe_4 : decode cX11_safe 4 = .ok (.ifCond .ne 7, 3) := by decide +kernel
theorem dX11_safe_7 : decode cX11_safe 7 = .ok (.ldc_w 266, 3) := by decide +kernel
theorem dX11_safe_10 : decode cX11_safe 10 = .ok (.ireturn, 1) := by decide +kernel
theorem dX11_safe_11 : decode cX11_safe 11 = .ok (.iload_n 2, 1) := by decide +kernel
theorem dX11_safe_12 : decode cX11_safe 12 = .ok (.i2l, 1) := by decide +kernel
theorem dX11_safe_13 : decode cX11_safe 13 = .ok (.lconst 0, 1) := by decide +kernel
theorem dX11_safe_14 : decode cX11_safe 14 = .ok (.lconst 1, 1) := by decide +kernel
theorem dX11_safe_15 : decode cX11_safe 15 = .ok (.invokestatic 142, 3) := by decide +kernel
theorem dX11_safe_18 : decode cX11_safe 18 = .ok (.ifCond .ne 6, 3) := by decide +kernel
theorem dX11_safe_21 : decode cX11_safe 21 = .ok (.ldc 152, 2) := by decide +kernel
theorem dX11_safe_23 : decode cX11_safe 23 = .ok (.ireturn, 1) := by decide +kernel
theorem dX11_safe_24 : decode cX11_safe 24 = .ok (.aload_n 0, 1) := by decide +kernel
theorem dX11_safe_25 : decode cX11_safe 25 = .ok (.invokevirtual 366, 3) := by decide +kernel
theorem dX11_safe_28 : decode cX11_safe 28 = .ok (.ifCond .ne 7, 3) := by decide +kernel
theorem dX11_safe_31 : decode cX11_safe 31 = .ok (.ldc_w 320, 3) := by decide +kernel
theorem dX11_safe_34 : decode cX11_safe 34 = .ok (.ireturn, 1) := by decide +kernel
theorem dX11_safe_35 : decode cX11_safe 35 = .ok (.aload_n 0, 1) := by decide +kernel
theorem dX11_safe_36 : decode cX11_safe 36 = .ok (.invokevirtual 369, 3) := by decide +kernel
theorem dX11_safe_39 : decode cX11_safe 39 = .ok (.iconst 0, 1) := by decide +kernel
theorem dX11_safe_40 : decode cX11_safe 40 = .ok (.istore_n 3, 1) := by decide +kernel
theorem dX11_safe_41 : decode cX11_safe 41 = .ok (.iconst 1, 1) := by decide +kernel
theorem dX11_safe_42 : decode cX11_safe 42 = .ok (.istore 4, 2) := by decide +kernel
theorem dX11_safe_44 : decode cX11_safe 44 = .ok (.iload 4, 2) := by decide +kernel
theorem dX11_safe_46 : decode cX11_safe 46 = .ok (.iload_n 1, 1) := by decide +kernel
theorem dX11_safe_47 : decode cX11_safe 47 = .ok (.ifCond .ne 10, 3) := by decide +kernel
theorem dX11_safe_50 : decode cX11_safe 50 = .ok (.aload_n 0, 1) := by decide +kernel
theorem dX11_safe_51 : decode cX11_safe 51 = .ok (.getfield 356, 3) := by decide +kernel
theorem dX11_safe_54 : decode cX11_safe 54 = .ok (.goto 7, 3) := by decide +kernel
theorem dX11_safe_57 : decode cX11_safe 57 = .ok (.aload_n 0, 1) := by decide +kernel
theorem dX11_safe_58 : decode cX11_safe 58 = .ok (.getfield 359, 3) := by decide +kernel
theorem dX11_safe_61 : decode cX11_safe 61 = .ok (.if_icmp .ge 72, 3) := by decide +kernel
theorem dX11_safe_64 : decode cX11_safe 64 = .ok (.iload_n 1, 1) := by decide +kernel
theorem dX11_safe_65 : decode cX11_safe 65 = .ok (.ifCond .ne 27, 3) := by decide +kernel
theorem dX11_safe_68 : decode cX11_safe 68 = .ok (.aload_n 0, 1) := by decide +kernel
theorem dX11_safe_69 : decode cX11_safe 69 = .ok (.iconst 0, 1) := by decide +kernel
theorem dX11_safe_70 : decode cX11_safe 70 = .ok (.iload 4, 2) := by decide +kernel
theorem dX11_safe_72 : decode cX11_safe 72 = .ok (.invokevirtual 372, 3) := by decide +kernel
theorem dX11_safe_75 : decode cX11_safe 75 = .ok (.aload_n 0, 1) := by decide +kernel
theorem dX11_safe_76 : decode cX11_safe 76 = .ok (.iconst 0, 1) := by decide +kernel
theorem dX11_safe_77 : decode cX11_safe 77 = .ok (.iload_n 3, 1) := by decide +kernel
theorem dX11_safe_78 : decode cX11_safe 78 = .ok (.invokevirtual 372, 3) := by decide +kernel
theorem dX11_safe_81 : decode cX11_safe 81 = .ok (.if_icmp .le 7, 3) := by decide +kernel
theorem dX11_safe_84 : decode cX11_safe 84 = .ok (.iconst 1, 1) := by decide +kernel
theorem dX11_safe_85 : decode cX11_safe 85 = .ok (.goto 28, 3) := by decide +kernel
theorem dX11_safe_88 : decode cX11_safe 88 = .ok (.iconst 0, 1) := by decide +kernel
theorem dX11_safe_89 : decode cX11_safe 89 = .ok (.goto 24, 3) := by decide +kernel
theorem dX11_safe_92 : decode cX11_safe 92 = .ok (.aload_n 0, 1) := by decide +kernel
theorem dX11_safe_93 : decode cX11_safe 93 = .ok (.iconst 1, 1) := by decide +kernel
theorem dX11_safe_94 : decode cX11_safe 94 = .ok (.iload 4, 2) := by decide +kernel
theorem dX11_safe_96 : decode cX11_safe 96 = .ok (.invokevirtual 372, 3) := by decide +kernel
theorem dX11_safe_99 : decode cX11_safe 99 = .ok (.aload_n 0, 1) := by decide +kernel
theorem dX11_safe_100 : decode cX11_safe 100 = .ok (.iconst 1, 1) := by decide +kernel
theorem dX11_safe_101 : decode cX11_safe 101 = .ok (.iload_n 3, 1) := by decide +kernel
theorem dX11_safe_102 : decode cX11_safe 102 = .ok (.invokevirtual 372, 3) := by decide +kernel
theorem dX11_safe_105 : decode cX11_safe 105 = .ok (.if_icmp .ge 7, 3) := by decide +kernel
theorem dX11_safe_108 : decode cX11_safe 108 = .ok (.iconst 1, 1) := by decide +kernel
theorem dX11_safe_109 : decode cX11_safe 109 = .ok (.goto 4, 3) := by decide +kernel
theorem dX11_safe_112 : decode cX11_safe 112 = .ok (.iconst 0, 1) := by decide +kernel
theorem dX11_safe_113 : decode cX11_safe 113 = .ok (.istore 5, 2) := by decide +kernel
theorem dX11_safe_115 : decode cX11_safe 115 = .ok (.iload 5, 2) := by decide +kernel
theorem dX11_safe_117 : decode cX11_safe 117 = .ok (.ifCond .eq 8, 3) := by decide +kernel
theorem dX11_safe_120 : decode cX11_safe 120 = .ok (.iload 4, 2) := by decide +kernel
theorem dX11_safe_122 : decode cX11_safe 122 = .ok (.goto 4, 3) := by decide +kernel
theorem dX11_safe_125 : decode cX11_safe 125 = .ok (.iload_n 3, 1) := by decide +kernel
theorem dX11_safe_126 : decode cX11_safe 126 = .ok (.istore_n 3, 1) := by decide +kernel
theorem dX11_safe_127 : decode cX11_safe 127 = .ok (.iinc 4 1, 3) := by decide +kernel
theorem dX11_safe_130 : decode cX11_safe 130 = .ok (.goto (-86), 3) := by decide +kernel
theorem dX11_safe_133 : decode cX11_safe 133 = .ok (.iload_n 2, 1) := by decide +kernel
theorem dX11_safe_134 : decode cX11_safe 134 = .ok (.iconst 1, 1) := by decide +kernel
theorem dX11_safe_135 : decode cX11_safe 135 = .ok (.if_icmp .ne 12, 3) := by decide +kernel
theorem dX11_safe_138 : decode cX11_safe 138 = .ok (.aload_n 0, 1) := by decide +kernel
theorem dX11_safe_139 : decode cX11_safe 139 = .ok (.iload_n 1, 1) := by decide +kernel
theorem dX11_safe_140 : decode cX11_safe 140 = .ok (.iload_n 3, 1) := by decide +kernel
theorem dX11_safe_141 : decode cX11_safe 141 = .ok (.invokevirtual 372, 3) := by decide +kernel
theorem dX11_safe_144 : decode cX11_safe 144 = .ok (.goto 22, 3) := by decide +kernel
theorem dX11_safe_147 : decode cX11_safe 147 = .ok (.iload_n 1, 1) := by decide +kernel
theorem dX11_safe_148 : decode cX11_safe 148 = .ok (.ifCond .ne 12, 3) := by decide +kernel
theorem dX11_safe_151 : decode cX11_safe 151 = .ok (.aload_n 0, 1) := by decide +kernel
theorem dX11_safe_152 : decode cX11_safe 152 = .ok (.getfield 72, 3) := by decide +kernel
theorem dX11_safe_155 : decode cX11_safe 155 = .ok (.iload_n 3, 1) := by decide +kernel
theorem dX11_safe_156 : decode cX11_safe 156 = .ok (.iaload, 1) := by decide +kernel
theorem dX11_safe_157 : decode cX11_safe 157 = .ok (.goto 9, 3) := by decide +kernel
theorem dX11_safe_160 : decode cX11_safe 160 = .ok (.aload_n 0, 1) := by decide +kernel
theorem dX11_safe_161 : decode cX11_safe 161 = .ok (.getfield 75, 3) := by decide +kernel
theorem dX11_safe_164 : decode cX11_safe 164 = .ok (.iload_n 3, 1) := by decide +kernel
theorem dX11_safe_165 : decode cX11_safe 165 = .ok (.iaload, 1) := by decide +kernel
theorem dX11_safe_166 : decode cX11_safe 166 = .ok (.ireturn, 1) := by decide +kernel
theorem dX11_answer_0 : decode cX11_answer 0 = .ok (.iload_n 1, 1) := by decide +kernel
theorem dX11_answer_1 : decode cX11_answer 1 = .ok (.invokestatic 146, 3) := by decide +kernel
theorem dX11_answer_4 : decode cX11_answer 4 = .ok (.ifCond .eq 14, 3) := by decide +kernel
theorem dX11_answer_7 : decode cX11_answer 7 = .ok (.aload_n 0, 1) := by decide +kernel
theorem dX11_answer_8 : decode cX11_answer 8 = .ok (.iconst 1, 1) := by decide +kernel
theorem dX11_answer_9 : decode cX11_answer 9 = .ok (.iload_n 1, 1) := by decide +kernel
theorem dX11_answer_10 : decode cX11_answer 10 = .ok (.isub, 1) := by decide +kernel
theorem dX11_answer_11 : decode cX11_answer 11 = .ok (.iload_n 2, 1) := by decide +kernel
theorem dX11_answer_12 : decode cX11_answer 12 = .ok (.invokevirtual 281, 3) := by decide +kernel
theorem dX11_answer_15 : decode cX11_answer 15 = .ok (.ifCond .ne 7, 3) := by decide +kernel
theorem dX11_answer_18 : decode cX11_answer 18 = .ok (.ldc_w 266, 3) := by decide +kernel
theorem dX11_answer_21 : decode cX11_answer 21 = .ok (.ireturn, 1) := by decide +kernel
theorem dX11_answer_22 : decode cX11_answer 22 = .ok (.aload_n 0, 1) := by decide +kernel
theorem dX11_answer_23 : decode cX11_answer 23 = .ok (.invokevirtual 366, 3) := by decide +kernel
theorem dX11_answer_26 : decode cX11_answer 26 = .ok (.ifCond .ne 7, 3) := by decide +kernel
theorem dX11_answer_29 : decode cX11_answer 29 = .ok (.ldc_w 320, 3) := by decide +kernel
theorem dX11_answer_32 : decode cX11_answer 32 = .ok (.ireturn, 1) := by decide +kernel
theorem dX11_answer_33 : decode cX11_answer 33 = .ok (.aload_n 0, 1) := by decide +kernel
theorem dX11_answer_34 : decode cX11_answer 34 = .ok (.invokevirtual 362, 3) := by decide +kernel
theorem dX11_answer_37 : decode cX11_answer 37 = .ok (.iconst (-1), 1) := by decide +kernel
theorem dX11_answer_38 : decode cX11_answer 38 = .ok (.istore_n 3, 1) := by decide +kernel
theorem dX11_answer_39 : decode cX11_answer 39 = .ok (.iconst 0, 1) := by decide +kernel
theorem dX11_answer_40 : decode cX11_answer 40 = .ok (.istore 4, 2) := by decide +kernel
theorem dX11_answer_42 : decode cX11_answer 42 = .ok (.iconst 0, 1) := by decide +kernel
theorem dX11_answer_43 : decode cX11_answer 43 = .ok (.istore 5, 2) := by decide +kernel
theorem dX11_answer_45 : decode cX11_answer 45 = .ok (.iload 5, 2) := by decide +kernel
theorem dX11_answer_47 : decode cX11_answer 47 = .ok (.iload_n 1, 1) := by decide +kernel
theorem dX11_answer_48 : decode cX11_answer 48 = .ok (.ifCond .ne 10, 3) := by decide +kernel
theorem dX11_answer_51 : decode cX11_answer 51 = .ok (.aload_n 0, 1) := by decide +kernel
theorem dX11_answer_52 : decode cX11_answer 52 = .ok (.getfield 356, 3) := by decide +kernel
theorem dX11_answer_55 : decode cX11_answer 55 = .ok (.goto 7, 3) := by decide +kernel
theorem dX11_answer_58 : decode cX11_answer 58 = .ok (.aload_n 0, 1) := by decide +kernel
theorem dX11_answer_59 : decode cX11_answer 59 = .ok (.getfield 359, 3) := by decide +kernel
theorem dX11_answer_62 : decode cX11_answer 62 = .ok (.if_icmp .ge 113, 3) := by decide +kernel
theorem dX11_answer_65 : decode cX11_answer 65 = .ok (.iload_n 1, 1) := by decide +kernel
theorem dX11_answer_66 : decode cX11_answer 66 = .ok (.ifCond .ne 13, 3) := by decide +kernel
theorem dX11_answer_69 : decode cX11_answer 69 = .ok (.aload_n 0, 1) := by decide +kernel
theorem dX11_answer_70 : decode cX11_answer 70 = .ok (.getfield 72, 3) := by decide +kernel
theorem dX11_answer_73 : decode cX11_answer 73 = .ok (.iload 5, 2) := by decide +kernel
theorem dX11_answer_75 : decode cX11_answer 75 = .ok (.iaload, 1) := by decide +kernel
theorem dX11_answer_76 : decode cX11_answer 76 = .ok (.goto 10, 3) := by decide +kernel
theorem dX11_answer_79 : decode cX11_answer 79 = .ok (.aload_n 0, 1) := by decide +kernel
theorem dX11_answer_80 : decode cX11_answer 80 = .ok (.getfield 75, 3) := by decide +kernel
theorem dX11_answer_83 : decode cX11_answer 83 = .ok (.iload 5, 2) := by decide +kernel
theorem dX11_answer_85 : decode cX11_answer 85 = .ok (.iaload, 1) := by decide +kernel
theorem dX11_answer_86 : decode cX11_answer 86 = .ok (.istore 6, 2) := by decide +kernel
theorem dX11_answer_88 : decode cX11_answer 88 = .ok (.iload_n 1, 1) := by decide +kernel
theorem dX11_answer_89 : decode cX11_answer 89 = .ok (.ifCond .ne 13, 3) := by decide +kernel
theorem dX11_answer_92 : decode cX11_answer 92 = .ok (.aload_n 0, 1) := by decide +kernel
theorem dX11_answer_93 : decode cX11_answer 93 = .ok (.iload 6, 2) := by decide +kernel
theorem dX11_answer_95 : decode cX11_answer 95 = .ok (.iload_n 2, 1) := by decide +kernel
theorem dX11_answer_96 : decode cX11_answer 96 = .ok (.invokevirtual 353, 3) := by decide +kernel
theorem dX11_answer_99 : decode cX11_answer 99 = .ok (.goto 10, 3) := by decide +kernel
theorem dX11_answer_102 : decode cX11_answer 102 = .ok (.aload_n 0, 1) := by decide +kernel
theorem dX11_answer_103 : decode cX11_answer 103 = .ok (.iload_n 2, 1) := by decide +kernel
theorem dX11_answer_104 : decode cX11_answer 104 = .ok (.iload 6, 2) := by decide +kernel
theorem dX11_answer_106 : decode cX11_answer 106 = .ok (.invokevirtual 353, 3) := by decide +kernel
theorem dX11_answer_109 : decode cX11_answer 109 = .ok (.istore 7, 2) := by decide +kernel
theorem dX11_answer_111 : decode cX11_answer 111 = .ok (.iload_n 3, 1) := by decide +kernel
theorem dX11_answer_112 : decode cX11_answer 112 = .ok (.ifCond .lt 24, 3) := by decide +kernel
theorem dX11_answer_115 : decode cX11_answer 115 = .ok (.iload_n 1, 1) := by decide +kernel
theorem dX11_answer_116 : decode cX11_answer 116 = .ok (.ifCond .ne 13, 3) := by decide +kernel
theorem dX11_answer_119 : decode cX11_answer 119 = .ok (.iload 7, 2) := by decide +kernel
theorem dX11_answer_121 : decode cX11_answer 121 = .ok (.iload 4, 2) := by decide +kernel
theorem dX11_answer_123 : decode cX11_answer 123 = .ok (.if_icmp .le 17, 3) := by decide +kernel
theorem dX11_answer_126 : decode cX11_answer 126 = .ok (.goto 10, 3) := by decide +kernel
theorem dX11_answer_129 : decode cX11_answer 129 = .ok (.iload 7, 2) := by decide +kernel
theorem dX11_answer_131 : decode cX11_answer 131 = .ok (.iload 4, 2) := by decide +kernel
theorem dX11_answer_133 : decode cX11_answer 133 = .ok (.if_icmp .ge 7, 3) := by decide +kernel
theorem dX11_answer_136 : decode cX11_answer 136 = .ok (.iconst 1, 1) := by decide +kernel
theorem dX11_answer_137 : decode cX11_answer 137 = .ok (.goto 4, 3) := by decide +kernel
theorem dX11_answer_140 : decode cX11_answer 140 = .ok (.iconst 0, 1) := by decide +kernel
theorem dX11_answer_141 : decode cX11_answer 141 = .ok (.istore 8, 2) := by decide +kernel
theorem dX11_answer_143 : decode cX11_answer 143 = .ok (.iload 8, 2) := by decide +kernel
theorem dX11_answer_145 : decode cX11_answer 145 = .ok (.ifCond .eq 8, 3) := by decide +kernel
theorem dX11_answer_148 : decode cX11_answer 148 = .ok (.iload 6, 2) := by decide +kernel
theorem dX11_answer_150 : decode cX11_answer 150 = .ok (.goto 4, 3) := by decide +kernel
theorem dX11_answer_153 : decode cX11_answer 153 = .ok (.iload_n 3, 1) := by decide +kernel
theorem dX11_answer_154 : decode cX11_answer 154 = .ok (.istore_n 3, 1) := by decide +kernel
theorem dX11_answer_155 : decode cX11_answer 155 = .ok (.iload 8, 2) := by decide +kernel
theorem dX11_answer_157 : decode cX11_answer 157 = .ok (.ifCond .eq 8, 3) := by decide +kernel
theorem dX11_answer_160 : decode cX11_answer 160 = .ok (.iload 7, 2) := by decide +kernel
theorem dX11_answer_162 : decode cX11_answer 162 = .ok (.goto 5, 3) := by decide +kernel
theorem dX11_answer_165 : decode cX11_answer 165 = .ok (.iload 4, 2) := by decide +kernel
theorem dX11_answer_167 : decode cX11_answer 167 = .ok (.istore 4, 2) := by decide +kernel
theorem dX11_answer_169 : decode cX11_answer 169 = .ok (.iinc 5 1, 3) := by decide +kernel
theorem dX11_answer_172 : decode cX11_answer 172 = .ok (.goto (-127), 3) := by decide +kernel
theorem dX11_answer_175 : decode cX11_answer 175 = .ok (.iload_n 3, 1) := by decide +kernel
theorem dX11_answer_176 : decode cX11_answer 176 = .ok (.ireturn, 1) := by decide +kernel
theorem dX11_isRounds_0 : decode cX11_isRounds 0 = .ok (.iload_n 0, 1) := by decide +kernel
theorem dX11_isRounds_1 : decode cX11_isRounds 1 = .ok (.i2l, 1) := by decide +kernel
theorem dX11_isRounds_2 : decode cX11_isRounds 2 = .ok (.lconst 1, 1) := by decide +kernel
theorem dX11_isRounds_3 : decode cX11_isRounds 3 = .ok (.ldc2_w 375, 3) := by decide +kernel
theorem dX11_isRounds_6 : decode cX11_isRounds 6 = .ok (.invokestatic 142, 3) := by decide +kernel
theorem dX11_isRounds_9 : decode cX11_isRounds 9 = .ok (.ireturn, 1) := by decide +kernel
theorem dX11_playRounds_0 : decode cX11_playRounds 0 = .ok (.aload_n 0, 1) := by decide +kernel
theorem dX11_playRounds_1 : decode cX11_playRounds 1 = .ok (.invokevirtual 369, 3) := by decide +kernel
theorem dX11_playRounds_4 : decode cX11_playRounds 4 = .ok (.iconst 0, 1) := by decide +kernel
theorem dX11_playRounds_5 : decode cX11_playRounds 5 = .ok (.istore_n 2, 1) := by decide +kernel
theorem dX11_playRounds_6 : decode cX11_playRounds 6 = .ok (.iload_n 2, 1) := by decide +kernel
theorem dX11_playRounds_7 : decode cX11_playRounds 7 = .ok (.bipush 36, 2) := by decide +kernel
theorem dX11_playRounds_9 : decode cX11_playRounds 9 = .ok (.if_icmp .ge 37, 3) := by decide +kernel
theorem dX11_playRounds_12 : decode cX11_playRounds 12 = .ok (.aload_n 0, 1) := by decide +kernel
theorem dX11_playRounds_13 : decode cX11_playRounds 13 = .ok (.getfield 81, 3) := by decide +kernel
theorem dX11_playRounds_16 : decode cX11_playRounds 16 = .ok (.iload_n 2, 1) := by decide +kernel
theorem dX11_playRounds_17 : decode cX11_playRounds 17 = .ok (.iconst 0, 1) := by decide +kernel
theorem dX11_playRounds_18 : decode cX11_playRounds 18 = .ok (.iastore, 1) := by decide +kernel
theorem dX11_playRounds_19 : decode cX11_playRounds 19 = .ok (.aload_n 0, 1) := by decide +kernel
theorem dX11_playRounds_20 : decode cX11_playRounds 20 = .ok (.getfield 84, 3) := by decide +kernel
theorem dX11_playRounds_23 : decode cX11_playRounds 23 = .ok (.iload_n 2, 1) := by decide +kernel
theorem dX11_playRounds_24 : decode cX11_playRounds 24 = .ok (.iconst 0, 1) := by decide +kernel
theorem dX11_playRounds_25 : decode cX11_playRounds 25 = .ok (.iastore, 1) := by decide +kernel
theorem dX11_playRounds_26 : decode cX11_playRounds 26 = .ok (.aload_n 0, 1) := by decide +kernel
theorem dX11_playRounds_27 : decode cX11_playRounds 27 = .ok (.getfield 87, 3) := by decide +kernel
theorem dX11_playRounds_30 : decode cX11_playRounds 30 = .ok (.iload_n 2, 1) := by decide +kernel
theorem dX11_playRounds_31 : decode cX11_playRounds 31 = .ok (.iconst 0, 1) := by decide +kernel
theorem dX11_playRounds_32 : decode cX11_playRounds 32 = .ok (.iastore, 1) := by decide +kernel
theorem dX11_playRounds_33 : decode cX11_playRounds 33 = .ok (.aload_n 0, 1) := by decide +kernel
theorem dX11_playRounds_34 : decode cX11_playRounds 34 = .ok (.getfield 90, 3) := by decide +kernel
theorem dX11_playRounds_37 : decode cX11_playRounds 37 = .ok (.iload_n 2, 1) := by decide +kernel
theorem dX11_playRounds_38 : decode cX11_playRounds 38 = .ok (.iconst 0, 1) := by decide +kernel
theorem dX11_playRounds_39 : decode cX11_playRounds 39 = .ok (.iastore, 1) := by decide +kernel
theorem dX11_playRounds_40 : decode cX11_playRounds 40 = .ok (.iinc 2 1, 3) := by decide +kernel
theorem dX11_playRounds_43 : decode cX11_playRounds 43 = .ok (.goto (-37), 3) := by decide +kernel
theorem dX11_playRounds_46 : decode cX11_playRounds 46 = .ok (.iconst 0, 1) := by decide +kernel
theorem dX11_playRounds_47 : decode cX11_playRounds 47 = .ok (.istore_n 2, 1) := by decide +kernel
theorem dX11_playRounds_48 : decode cX11_playRounds 48 = .ok (.iload_n 2, 1) := by decide +kernel
theorem dX11_playRounds_49 : decode cX11_playRounds 49 = .ok (.iload_n 1, 1) := by decide +kernel
theorem dX11_playRounds_50 : decode cX11_playRounds 50 = .ok (.if_icmp .ge 201, 3) := by decide +kernel
theorem dX11_playRounds_53 : decode cX11_playRounds 53 = .ok (.iconst 0, 1) := by decide +kernel
theorem dX11_playRounds_54 : decode cX11_playRounds 54 = .ok (.istore_n 3, 1) := by decide +kernel
theorem dX11_playRounds_55 : decode cX11_playRounds 55 = .ok (.iconst 1, 1) := by decide +kernel
theorem dX11_playRounds_56 : decode cX11_playRounds 56 = .ok (.istore 4, 2) := by decide +kernel
theorem dX11_playRounds_58 : decode cX11_playRounds 58 = .ok (.iload 4, 2) := by decide +kernel
theorem dX11_playRounds_60 : decode cX11_playRounds 60 = .ok (.aload_n 0, 1) := by decide +kernel
theorem dX11_playRounds_61 : decode cX11_playRounds 61 = .ok (.getfield 356, 3) := by decide +kernel
theorem dX11_playRounds_64 : decode cX11_playRounds 64 = .ok (.if_icmp .ge 32, 3) := by decide +kernel
theorem dX11_playRounds_67 : decode cX11_playRounds 67 = .ok (.aload_n 0, 1) := by decide +kernel
theorem dX11_playRounds_68 : decode cX11_playRounds 68 = .ok (.getfield 81, 3) := by decide +kernel
theorem dX11_playRounds_71 : decode cX11_playRounds 71 = .ok (.iload 4, 2) := by decide +kernel
theorem dX11_playRounds_73 : decode cX11_playRounds 73 = .ok (.iaload, 1) := by decide +kernel
theorem dX11_playRounds_74 : decode cX11_playRounds 74 = .ok (.aload_n 0, 1) := by decide +kernel
theorem dX11_playRounds_75 : decode cX11_playRounds 75 = .ok (.getfield 81, 3) := by decide +kernel
theorem dX11_playRounds_78 : decode cX11_playRounds 78 = .ok (.iload_n 3, 1) := by decide +kernel
theorem dX11_playRounds_79 : decode cX11_playRounds 79 = .ok (.iaload, 1) := by decide +kernel
theorem dX11_playRounds_80 : decode cX11_playRounds 80 = .ok (.if_icmp .le 8, 3) := by decide +kernel
theorem dX11_playRounds_83 : decode cX11_playRounds 83 = .ok (.iload 4, 2) := by decide +kernel
theorem dX11_playRounds_85 : decode cX11_playRounds 85 = .ok (.goto 4, 3) := by decide +kernel
theorem dX11_playRounds_88 : decode cX11_playRounds 88 = .ok (.iload_n 3, 1) := by decide +kernel
theorem dX11_playRounds_89 : decode cX11_playRounds 89 = .ok (.istore_n 3, 1) := by decide +kernel
theorem dX11_playRounds_90 : decode cX11_playRounds 90 = .ok (.iinc 4 1, 3) := by decide +kernel
theorem dX11_playRounds_93 : decode cX11_playRounds 93 = .ok (.goto (-35), 3) := by decide +kernel
theorem dX11_playRounds_96 : decode cX11_playRounds 96 = .ok (.iconst 0, 1) := by decide +kernel
theorem dX11_playRounds_97 : decode cX11_playRounds 97 = .ok (.istore 4, 2) := by decide +kernel
theorem dX11_playRounds_99 : decode cX11_playRounds 99 = .ok (.iconst 1, 1) := by decide +kernel
theorem dX11_playRounds_100 : decode cX11_playRounds 100 = .ok (.istore 5, 2) := by decide +kernel
theorem dX11_playRounds_102 : decode cX11_playRounds 102 = .ok (.iload 5, 2) := by decide +kernel
theorem dX11_playRounds_104 : decode cX11_playRounds 104 = .ok (.aload_n 0, 1) := by decide +kernel
theorem dX11_playRounds_105 : decode cX11_playRounds 105 = .ok (.getfield 359, 3) := by decide +kernel
theorem dX11_playRounds_108 : decode cX11_playRounds 108 = .ok (.if_icmp .ge 35, 3) := by decide +kernel
theorem dX11_playRounds_111 : decode cX11_playRounds 111 = .ok (.aload_n 0, 1) := by decide +kernel
theorem dX11_playRounds_112 : decode cX11_playRounds 112 = .ok (.getfield 84, 3) := by decide +kernel
theorem dX11_playRounds_115 : decode cX11_playRounds 115 = .ok (.iload 5, 2) := by decide +kernel
theorem dX11_playRounds_117 : decode cX11_playRounds 117 = .ok (.iaload, 1) := by decide +kernel
theorem dX11_playRounds_118 : decode cX11_playRounds 118 = .ok (.aload_n 0, 1) := by decide +kernel
theorem dX11_playRounds_119 : decode cX11_playRounds 119 = .ok (.getfield 84, 3) := by decide +kernel
theorem dX11_playRounds_122 : decode cX11_playRounds 122 = .ok (.iload 4, 2) := by decide +kernel
theorem dX11_playRounds_124 : decode cX11_playRounds 124 = .ok (.iaload, 1) := by decide +kernel
theorem dX11_playRounds_125 : decode cX11_playRounds 125 = .ok (.if_icmp .ge 8, 3) := by decide +kernel
theorem dX11_playRounds_128 : decode cX11_playRounds 128 = .ok (.iload 5, 2) := by decide +kernel
theorem dX11_playRounds_130 : decode cX11_playRounds 130 = .ok (.goto 5, 3) := by decide +kernel
theorem dX11_playRounds_133 : decode cX11_playRounds 133 = .ok (.iload 4, 2) := by decide +kernel
theorem dX11_playRounds_135 : decode cX11_playRounds 135 = .ok (.istore 4, 2) := by decide +kernel
theorem dX11_playRounds_137 : decode cX11_playRounds 137 = .ok (.iinc 5 1, 3) := by decide +kernel
theorem dX11_playRounds_140 : decode cX11_playRounds 140 = .ok (.goto (-38), 3) := by decide +kernel
theorem dX11_playRounds_143 : decode cX11_playRounds 143 = .ok (.aload_n 0, 1) := by decide +kernel
theorem dX11_playRounds_144 : decode cX11_playRounds 144 = .ok (.getfield 87, 3) := by decide +kernel
theorem dX11_playRounds_147 : decode cX11_playRounds 147 = .ok (.iload_n 3, 1) := by decide +kernel
theorem dX11_playRounds_148 : decode cX11_playRounds 148 = .ok (.dup2, 1) := by decide +kernel
theorem dX11_playRounds_149 : decode cX11_playRounds 149 = .ok (.iaload, 1) := by decide +kernel
theorem dX11_playRounds_150 : decode cX11_playRounds 150 = .ok (.iconst 1, 1) := by decide +kernel
theorem dX11_playRounds_151 : decode cX11_playRounds 151 = .ok (.iadd, 1) := by decide +kernel
theorem dX11_playRounds_152 : decode cX11_playRounds 152 = .ok (.iastore, 1) := by decide +kernel
theorem dX11_playRounds_153 : decode cX11_playRounds 153 = .ok (.aload_n 0, 1) := by decide +kernel
theorem dX11_playRounds_154 : decode cX11_playRounds 154 = .ok (.getfield 90, 3) := by decide +kernel
theorem dX11_playRounds_157 : decode cX11_playRounds 157 = .ok (.iload 4, 2) := by decide +kernel
theorem dX11_playRounds_159 : decode cX11_playRounds 159 = .ok (.dup2, 1) := by decide +kernel
theorem dX11_playRounds_160 : decode cX11_playRounds 160 = .ok (.iaload, 1) := by decide +kernel
theorem dX11_playRounds_161 : decode cX11_playRounds 161 = .ok (.iconst 1, 1) := by decide +kernel
theorem dX11_playRounds_162 : decode cX11_playRounds 162 = .ok (.iadd, 1) := by decide +kernel
theorem dX11_playRounds_163 : decode cX11_playRounds 163 = .ok (.iastore, 1) := by decide +kernel
theorem dX11_playRounds_164 : decode cX11_playRounds 164 = .ok (.iconst 0, 1) := by decide +kernel
theorem dX11_playRounds_165 : decode cX11_playRounds 165 = .ok (.istore 5, 2) := by decide +kernel
theorem dX11_playRounds_167 : decode cX11_playRounds 167 = .ok (.iload 5, 2) := by decide +kernel
theorem dX11_playRounds_169 : decode cX11_playRounds 169 = .ok (.aload_n 0, 1) := by decide +kernel
theorem dX11_playRounds_170 : decode cX11_playRounds 170 = .ok (.getfield 356, 3) := by decide +kernel
theorem dX11_playRounds_173 : decode cX11_playRounds 173 = .ok (.if_icmp .ge 32, 3) := by decide +kernel
theorem dX11_playRounds_176 : decode cX11_playRounds 176 = .ok (.aload_n 0, 1) := by decide +kernel
theorem dX11_playRounds_177 : decode cX11_playRounds 177 = .ok (.getfield 81, 3) := by decide +kernel
theorem dX11_playRounds_180 : decode cX11_playRounds 180 = .ok (.iload 5, 2) := by decide +kernel
theorem dX11_playRounds_182 : decode cX11_playRounds 182 = .ok (.dup2, 1) := by decide +kernel
theorem dX11_playRounds_183 : decode cX11_playRounds 183 = .ok (.iaload, 1) := by decide +kernel
theorem dX11_playRounds_184 : decode cX11_playRounds 184 = .ok (.aload_n 0, 1) := by decide +kernel
theorem dX11_playRounds_185 : decode cX11_playRounds 185 = .ok (.getfield 78, 3) := by decide +kernel
theorem dX11_playRounds_188 : decode cX11_playRounds 188 = .ok (.bipush 36, 2) := by decide +kernel
theorem dX11_playRounds_190 : decode cX11_playRounds 190 = .ok (.iload 5, 2) := by decide +kernel
theorem dX11_playRounds_192 : decode cX11_playRounds 192 = .ok (.imul, 1) := by decide +kernel
theorem dX11_playRounds_193 : decode cX11_playRounds 193 = .ok (.iload 4, 2) := by decide +kernel
theorem dX11_playRounds_195 : decode cX11_playRounds 195 = .ok (.iadd, 1) := by decide +kernel
theorem dX11_playRounds_196 : decode cX11_playRounds 196 = .ok (.iaload, 1) := by decide +kernel
theorem dX11_playRounds_197 : decode cX11_playRounds 197 = .ok (.iadd, 1) := by decide +kernel
theorem dX11_playRounds_198 : decode cX11_playRounds 198 = .ok (.iastore, 1) := by decide +kernel
theorem dX11_playRounds_199 : decode cX11_playRounds 199 = .ok (.iinc 5 1, 3) := by decide +kernel
theorem dX11_playRounds_202 : decode cX11_playRounds 202 = .ok (.goto (-35), 3) := by decide +kernel
theorem dX11_playRounds_205 : decode cX11_playRounds 205 = .ok (.iconst 0, 1) := by decide +kernel
theorem dX11_playRounds_206 : decode cX11_playRounds 206 = .ok (.istore 5, 2) := by decide +kernel
theorem dX11_playRounds_208 : decode cX11_playRounds 208 = .ok (.iload 5, 2) := by decide +kernel
theorem dX11_playRounds_210 : decode cX11_playRounds 210 = .ok (.aload_n 0, 1) := by decide +kernel
theorem dX11_playRounds_211 : decode cX11_playRounds 211 = .ok (.getfield 359, 3) := by decide +kernel
theorem dX11_playRounds_214 : decode cX11_playRounds 214 = .ok (.if_icmp .ge 31, 3) := by decide +kernel
theorem dX11_playRounds_217 : decode cX11_playRounds 217 = .ok (.aload_n 0, 1) := by decide +kernel
theorem dX11_playRounds_218 : decode cX11_playRounds 218 = .ok (.getfield 84, 3) := by decide +kernel
theorem dX11_playRounds_221 : decode cX11_playRounds 221 = .ok (.iload 5, 2) := by decide +kernel
theorem dX11_playRounds_223 : decode cX11_playRounds 223 = .ok (.dup2, 1) := by decide +kernel
theorem dX11_playRounds_224 : decode cX11_playRounds 224 = .ok (.iaload, 1) := by decide +kernel
theorem dX11_playRounds_225 : decode cX11_playRounds 225 = .ok (.aload_n 0, 1) := by decide +kernel
theorem dX11_playRounds_226 : decode cX11_playRounds 226 = .ok (.getfield 78, 3) := by decide +kernel
theorem dX11_playRounds_229 : decode cX11_playRounds 229 = .ok (.bipush 36, 2) := by decide +kernel
theorem dX11_playRounds_231 : decode cX11_playRounds 231 = .ok (.iload_n 3, 1) := by decide +kernel
theorem dX11_playRounds_232 : decode cX11_playRounds 232 = .ok (.imul, 1) := by decide +kernel
theorem dX11_playRounds_233 : decode cX11_playRounds 233 = .ok (.iload 5, 2) := by decide +kernel
theorem dX11_playRounds_235 : decode cX11_playRounds 235 = .ok (.iadd, 1) := by decide +kernel
theorem dX11_playRounds_236 : decode cX11_playRounds 236 = .ok (.iaload, 1) := by decide +kernel
theorem dX11_playRounds_237 : decode cX11_playRounds 237 = .ok (.iadd, 1) := by decide +kernel
theorem dX11_playRounds_238 : decode cX11_playRounds 238 = .ok (.iastore, 1) := by decide +kernel
theorem dX11_playRounds_239 : decode cX11_playRounds 239 = .ok (.iinc 5 1, 3) := by decide +kernel
theorem dX11_playRounds_242 : decode cX11_playRounds 242 = .ok (.goto (-34), 3) := by decide +kernel
theorem dX11_playRounds_245 : decode cX11_playRounds 245 = .ok (.iinc 2 1, 3) := by decide +kernel
theorem dX11_playRounds_248 : decode cX11_playRounds 248 = .ok (.goto (-200), 3) := by decide +kernel
theorem dX11_playRounds_251 : decode cX11_playRounds 251 = .ok (.return_, 1) := by decide +kernel
theorem dX11_bounds_0 : decode cX11_bounds 0 = .ok (.iload_n 1, 1) := by decide +kernel
theorem dX11_bounds_1 : decode cX11_bounds 1 = .ok (.invokestatic 377, 3) := by decide +kernel
theorem dX11_bounds_4 : decode cX11_bounds 4 = .ok (.ifCond .eq 13, 3) := by decide +kernel
theorem dX11_bounds_7 : decode cX11_bounds 7 = .ok (.iload_n 2, 1) := by decide +kernel
theorem dX11_bounds_8 : decode cX11_bounds 8 = .ok (.i2l, 1) := by decide +kernel
theorem dX11_bounds_9 : decode cX11_bounds 9 = .ok (.lconst 0, 1) := by decide +kernel
theorem dX11_bounds_10 : decode cX11_bounds 10 = .ok (.lconst 1, 1) := by decide +kernel
theorem dX11_bounds_11 : decode cX11_bounds 11 = .ok (.invokestatic 142, 3) := by decide +kernel
theorem dX11_bounds_14 : decode cX11_bounds 14 = .ok (.ifCond .ne 6, 3) := by decide +kernel
theorem dX11_bounds_17 : decode cX11_bounds 17 = .ok (.ldc 152, 2) := by decide +kernel
theorem dX11_bounds_19 : decode cX11_bounds 19 = .ok (.ireturn, 1) := by decide +kernel
theorem dX11_bounds_20 : decode cX11_bounds 20 = .ok (.aload_n 0, 1) := by decide +kernel
