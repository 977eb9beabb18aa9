theorem dX10_all_0 : decode cX10_all 0 = .ok (.aload_n 0, 1) := by decide +kernel
theorem dX10_all_1 : decode cX10_all 1 = .ok (.iconst 0, 1) := by decide +kernel
theorem dX10_all_2 : decode cX10_all 2 = .ok (.putfield 61, 3) := by decide +kernel
theorem dX10_all_5 : decode cX10_all 5 = .ok (.aload_n 0, 1) := by decide +kernel
theorem dX10_all_6 : decode cX10_all 6 = .ok (.getfield 336, 3) := by decide +kernel
theorem dX10_all_9 : decode cX10_all 9 = .ok (.ifnonnull 11, 3) := by decide +kernel
theorem dX10_all_12 : decode cX10_all 12 = .ok (.aload_n 0, 1) := by decide +kernel
theorem dX10_all_13 : decode cX10_all 13 = .ok (.iconst 1, 1) := by decide +kernel
theorem dX10_all_14 : decode cX10_all 14 = .ok (.invokevirtual 67, 3) := by decide +kernel
theorem dX10_all_17 : decode cX10_all 17 = .ok (.goto 11, 3) := by decide +kernel
theorem dX10_all_20 : decode cX10_all 20 = .ok (.aload_n 0, 1) := by decide +kernel
theorem dX10_all_21 : decode cX10_all 21 = .ok (.aload_n 0, 1) := by decide +kernel
theorem dX10_all_22 : decode cX10_all 22 = .ok (.invokevirtual 465, 3) := by decide +kernel
theorem dX10_all_25 : decode cX10_all 25 = .ok (.invokevirtual 71, 3) := by decide +kernel
theorem dX10_all_28 : decode cX10_all 28 = .ok (.ireturn, 1) := by decide +kernel
theorem dX10_allNow_0 : decode cX10_allNow 0 = .ok (.iconst 0, 1) := by decide +kernel
theorem dX10_allNow_1 : decode cX10_allNow 1 = .ok (.istore_n 1, 1) := by decide +kernel
theorem dX10_allNow_2 : decode cX10_allNow 2 = .ok (.iconst 0, 1) := by decide +kernel
theorem dX10_allNow_3 : decode cX10_allNow 3 = .ok (.istore_n 2, 1) := by decide +kernel
theorem dX10_allNow_4 : decode cX10_allNow 4 = .ok (.iload_n 2, 1) := by decide +kernel
theorem dX10_allNow_5 : decode cX10_allNow 5 = .ok (.aload_n 0, 1) := by decide +kernel
theorem dX10_allNow_6 : decode cX10_allNow 6 = .ok (.getfield 336, 3) := by decide +kernel
theorem dX10_allNow_9 : decode cX10_allNow 9 = .ok (.getfield 296, 3) := by decide +kernel
theorem dX10_allNow_12 : decode cX10_allNow 12 = .ok (.if_icmp .ge 30, 3) := by decide +kernel
theorem dX10_allNow_15 : decode cX10_allNow 15 = .ok (.iload_n 1, 1) := by decide +kernel
theorem dX10_allNow_16 : decode cX10_allNow 16 = .ok (.aload_n 0, 1) := by decide +kernel
theorem dX10_allNow_17 : decode cX10_allNow 17 = .ok (.iload_n 2, 1) := by decide +kernel
theorem dX10_allNow_18 : decode cX10_allNow 18 = .ok (.invokevirtual 459, 3) := by decide +kernel
theorem dX10_allNow_21 : decode cX10_allNow 21 = .ok (.ifCond .eq 10, 3) := by decide +kernel
theorem dX10_allNow_24 : decode cX10_allNow 24 = .ok (.aload_n 0, 1) := by decide +kernel
theorem dX10_allNow_25 : decode cX10_allNow 25 = .ok (.getfield 432, 3) := by decide +kernel
theorem dX10_allNow_28 : decode cX10_allNow 28 = .ok (.goto 6, 3) := by decide +kernel
theorem dX10_allNow_31 : decode cX10_allNow 31 = .ok (.sipush 9999, 3) := by decide +kernel
theorem dX10_allNow_34 : decode cX10_allNow 34 = .ok (.iadd, 1) := by decide +kernel
theorem dX10_allNow_35 : decode cX10_allNow 35 = .ok (.istore_n 1, 1) := by decide +kernel
theorem dX10_allNow_36 : decode cX10_allNow 36 = .ok (.iinc 2 1, 3) := by decide +kernel
theorem dX10_allNow_39 : decode cX10_allNow 39 = .ok (.goto (-35), 3) := by decide +kernel
theorem dX10_allNow_42 : decode cX10_allNow 42 = .ok (.iload_n 1, 1) := by decide +kernel
theorem dX10_allNow_43 : decode cX10_allNow 43 = .ok (.ireturn, 1) := by decide +kernel
theorem dX10_anew_0 : decode cX10_anew 0 = .ok (.aload_n 0, 1) := by decide +kernel
theorem dX10_anew_1 : decode cX10_anew 1 = .ok (.iconst 0, 1) := by decide +kernel
theorem dX10_anew_2 : decode cX10_anew 2 = .ok (.putfield 61, 3) := by decide +kernel
theorem dX10_anew_5 : decode cX10_anew 5 = .ok (.aload_n 0, 1) := by decide +kernel
theorem dX10_anew_6 : decode cX10_anew 6 = .ok (.getfield 336, 3) := by decide +kernel
theorem dX10_anew_9 : decode cX10_anew 9 = .ok (.ifnonnull 9, 3) := by decide +kernel
theorem dX10_anew_12 : decode cX10_anew 12 = .ok (.aload_n 0, 1) := by decide +kernel
theorem dX10_anew_13 : decode cX10_anew 13 = .ok (.iconst 1, 1) := by decide +kernel
theorem dX10_anew_14 : decode cX10_anew 14 = .ok (.invokevirtual 504, 3) := by decide +kernel
theorem dX10_anew_17 : decode cX10_anew 17 = .ok (.ireturn, 1) := by decide +kernel
theorem dX10_anew_18 : decode cX10_anew 18 = .ok (.aload_n 0, 1) := by decide +kernel
theorem dX10_anew_19 : decode cX10_anew 19 = .ok (.getfield 468, 3) := by decide +kernel
theorem dX10_anew_22 : decode cX10_anew 22 = .ok (.istore_n 1, 1) := by decide +kernel
theorem dX10_anew_23 : decode cX10_anew 23 = .ok (.aload_n 0, 1) := by decide +kernel
theorem dX10_anew_24 : decode cX10_anew 24 = .ok (.invokevirtual 343, 3) := by decide +kernel
theorem dX10_anew_27 : decode cX10_anew 27 = .ok (.aload_n 0, 1) := by decide +kernel
theorem dX10_anew_28 : decode cX10_anew 28 = .ok (.iload_n 1, 1) := by decide +kernel
theorem dX10_anew_29 : decode cX10_anew 29 = .ok (.putfield 468, 3) := by decide +kernel
theorem dX10_anew_32 : decode cX10_anew 32 = .ok (.aload_n 0, 1) := by decide +kernel
theorem dX10_anew_33 : decode cX10_anew 33 = .ok (.invokevirtual 507, 3) := by decide +kernel
theorem dX10_anew_36 : decode cX10_anew 36 = .ok (.ireturn, 1) := by decide +kernel
theorem dX10_areTold_0 : decode cX10_areTold 0 = .ok (.aload_n 0, 1) := by decide +kernel
theorem dX10_areTold_1 : decode cX10_areTold 1 = .ok (.iload_n 1, 1) := by decide +kernel
theorem dX10_areTold_2 : decode cX10_areTold 2 = .ok (.invokevirtual 390, 3) := by decide +kernel
theorem dX10_areTold_5 : decode cX10_areTold 5 = .ok (.ifCond .eq 45, 3) := by decide +kernel
theorem dX10_areTold_8 : decode cX10_areTold 8 = .ok (.aload_n 0, 1) := by decide +kernel
theorem dX10_areTold_9 : decode cX10_areTold 9 = .ok (.iload_n 2, 1) := by decide +kernel
theorem dX10_areTold_10 : decode cX10_areTold 10 = .ok (.invokevirtual 393, 3) := by decide +kernel
theorem dX10_areTold_13 : decode cX10_areTold 13 = .ok (.ifCond .eq 37, 3) := by decide +kernel
theorem dX10_areTold_16 : decode cX10_areTold 16 = .ok (.aload_n 0, 1) := by decide +kernel
theorem dX10_areTold_17 : decode cX10_areTold 17 = .ok (.iload 4, 2) := by decide +kernel
theorem dX10_areTold_19 : decode cX10_areTold 19 = .ok (.invokevirtual 393, 3) := by decide +kernel
theorem dX10_areTold_22 : decode cX10_areTold 22 = .ok (.ifCond .eq 28, 3) := by decide +kernel
theorem dX10_areTold_25 : decode cX10_areTold 25 = .ok (.iload_n 3, 1) := by decide +kernel
theorem dX10_areTold_26 : decode cX10_areTold 26 = .ok (.iconst 0, 1) := by decide +kernel
theorem dX10_areTold_27 : decode cX10_areTold 27 = .ok (.bipush 11, 2) := by decide +kernel
theorem dX10_areTold_29 : decode cX10_areTold 29 = .ok (.invokestatic 139, 3) := by decide +kernel
theorem dX10_areTold_32 : decode cX10_areTold 32 = .ok (.ifCond .eq 18, 3) := by decide +kernel
theorem dX10_areTold_35 : decode cX10_areTold 35 = .ok (.iload 5, 2) := by decide +kernel
theorem dX10_areTold_37 : decode cX10_areTold 37 = .ok (.iconst 0, 1) := by decide +kernel
theorem dX10_areTold_38 : decode cX10_areTold 38 = .ok (.bipush 11, 2) := by decide +kernel
theorem dX10_areTold_40 : decode cX10_areTold 40 = .ok (.invokestatic 139, 3) := by decide +kernel
theorem dX10_areTold_43 : decode cX10_areTold 43 = .ok (.ifCond .eq 7, 3) := by decide +kernel
theorem dX10_areTold_46 : decode cX10_areTold 46 = .ok (.iconst 1, 1) := by decide +kernel
theorem dX10_areTold_47 : decode cX10_areTold 47 = .ok (.goto 4, 3) := by decide +kernel
theorem dX10_areTold_50 : decode cX10_areTold 50 = .ok (.iconst 0, 1) := by decide +kernel
theorem dX10_areTold_51 : decode cX10_areTold 51 = .ok (.ireturn, 1) := by decide +kernel
theorem dX10_back_0 : decode cX10_back 0 = .ok (.aload_n 0, 1) := by decide +kernel
theorem dX10_back_1 : decode cX10_back 1 = .ok (.iconst 0, 1) := by decide +kernel
theorem dX10_back_2 : decode cX10_back 2 = .ok (.putfield 61, 3) := by decide +kernel
theorem dX10_back_5 : decode cX10_back 5 = .ok (.aload_n 0, 1) := by decide +kernel
theorem dX10_back_6 : decode cX10_back 6 = .ok (.getfield 336, 3) := by decide +kernel
theorem dX10_back_9 : decode cX10_back 9 = .ok (.ifnull 15, 3) := by decide +kernel
theorem dX10_back_12 : decode cX10_back 12 = .ok (.iload_n 1, 1) := by decide +kernel
theorem dX10_back_13 : decode cX10_back 13 = .ok (.ifCond .lt 11, 3) := by decide +kernel
theorem dX10_back_16 : decode cX10_back 16 = .ok (.iload_n 1, 1) := by decide +kernel
theorem dX10_back_17 : decode cX10_back 17 = .ok (.aload_n 0, 1) := by decide +kernel
theorem dX10_back_18 : decode cX10_back 18 = .ok (.getfield 468, 3) := by decide +kernel
theorem dX10_back_21 : decode cX10_back 21 = .ok (.if_icmp .lt 9, 3) := by decide +kernel
theorem dX10_back_24 : decode cX10_back 24 = .ok (.aload_n 0, 1) := by decide +kernel
theorem dX10_back_25 : decode cX10_back 25 = .ok (.iconst 1, 1) := by decide +kernel
theorem dX10_back_26 : decode cX10_back 26 = .ok (.invokevirtual 504, 3) := by decide +kernel
theorem dX10_back_29 : decode cX10_back 29 = .ok (.ireturn, 1) := by decide +kernel
theorem dX10_back_30 : decode cX10_back 30 = .ok (.iconst 0, 1) := by decide +kernel
theorem dX10_back_31 : decode cX10_back 31 = .ok (.istore_n 2, 1) := by decide +kernel
theorem dX10_back_32 : decode cX10_back 32 = .ok (.iload_n 2, 1) := by decide +kernel
theorem dX10_back_33 : decode cX10_back 33 = .ok (.sipush 671, 3) := by decide +kernel
theorem dX10_back_36 : decode cX10_back 36 = .ok (.if_icmp .ge 27, 3) := by decide +kernel
theorem dX10_back_39 : decode cX10_back 39 = .ok (.aload_n 0, 1) := by decide +kernel
theorem dX10_back_40 : decode cX10_back 40 = .ok (.getfield 31, 3) := by decide +kernel
theorem dX10_back_43 : decode cX10_back 43 = .ok (.iload_n 2, 1) := by decide +kernel
theorem dX10_back_44 : decode cX10_back 44 = .ok (.aload_n 0, 1) := by decide +kernel
theorem dX10_back_45 : decode cX10_back 45 = .ok (.getfield 34, 3) := by decide +kernel
theorem dX10_back_48 : decode cX10_back 48 = .ok (.sipush 671, 3) := by decide +kernel
theorem dX10_back_51 : decode cX10_back 51 = .ok (.iload_n 1, 1) := by decide +kernel
theorem dX10_back_52 : decode cX10_back 52 = .ok (.imul, 1) := by decide +kernel
theorem dX10_back_53 : decode cX10_back 53 = .ok (.iload_n 2, 1) := by decide +kernel
theorem dX10_back_54 : decode cX10_back 54 = .ok (.iadd, 1) := by decide +kernel
theorem dX10_back_55 : decode cX10_back 55 = .ok (.iaload, 1) := by decide +kernel
theorem dX10_back_56 : decode cX10_back 56 = .ok (.iastore, 1) := by decide +kernel
theorem dX10_back_57 : decode cX10_back 57 = .ok (.iinc 2 1, 3) := by decide +kernel
theorem dX10_back_60 : decode cX10_back 60 = .ok (.goto (-28), 3) := by decide +kernel
theorem dX10_back_63 : decode cX10_back 63 = .ok (.aload_n 0, 1) := by decide +kernel
theorem dX10_back_64 : decode cX10_back 64 = .ok (.invokevirtual 507, 3) := by decide +kernel
theorem dX10_back_67 : decode cX10_back 67 = .ok (.ireturn, 1) := by decide +kernel
theorem dX10_bars_0 : decode cX10_bars 0 = .ok (.aload_n 0, 1) := by decide +kernel
theorem dX10_bars_1 : decode cX10_bars 1 = .ok (.iconst 0, 1) := by decide +kernel
theorem dX10_bars_2 : decode cX10_bars 2 = .ok (.putfield 61, 3) := by decide +kernel
theorem dX10_bars_5 : decode cX10_bars 5 = .ok (.aload_n 0, 1) := by decide +kernel
theorem dX10_bars_6 : decode cX10_bars 6 = .ok (.iload_n 1, 1) := by decide +kernel
theorem dX10_bars_7 : decode cX10_bars 7 = .ok (.invokevirtual 390, 3) := by decide +kernel
theorem dX10_bars_10 : decode cX10_bars 10 = .ok (.ifCond .eq 11, 3) := by decide +kernel
theorem dX10_bars_13 : decode cX10_bars 13 = .ok (.aload_n 0, 1) := by decide +kernel
theorem dX10_bars_14 : decode cX10_bars 14 = .ok (.iload_n 2, 1) := by decide +kernel
theorem dX10_bars_15 : decode cX10_bars 15 = .ok (.invokevirtual 346, 3) := by decide +kernel
theorem dX10_bars_18 : decode cX10_bars 18 = .ok (.ifCond .ne 9, 3) := by decide +kernel
theorem dX10_bars_21 : decode cX10_bars 21 = .ok (.aload_n 0, 1) := by decide +kernel
theorem dX10_bars_22 : decode cX10_bars 22 = .ok (.iconst 1, 1) := by decide +kernel
theorem dX10_bars_23 : decode cX10_bars 23 = .ok (.invokevirtual 67, 3) := by decide +kernel
theorem dX10_bars_26 : decode cX10_bars 26 = .ok (.ireturn, 1) := by decide +kernel
theorem dX10_bars_27 : decode cX10_bars 27 = .ok (.iload_n 3, 1) := by decide +kernel
theorem dX10_bars_28 : decode cX10_bars 28 = .ok (.ifCond .eq 17, 3) := by decide +kernel
theorem dX10_bars_31 : decode cX10_bars 31 = .ok (.aload_n 0, 1) := by decide +kernel
theorem dX10_bars_32 : decode cX10_bars 32 = .ok (.iload_n 1, 1) := by decide +kernel
theorem dX10_bars_33 : decode cX10_bars 33 = .ok (.invokevirtual 400, 3) := by decide +kernel
theorem dX10_bars_36 : decode cX10_bars 36 = .ok (.ifCond .ne 9, 3) := by decide +kernel
theorem dX10_bars_39 : decode cX10_bars 39 = .ok (.aload_n 0, 1) := by decide +kernel
theorem dX10_bars_40 : decode cX10_bars 40 = .ok (.iconst 5, 1) := by decide +kernel
theorem dX10_bars_41 : decode cX10_bars 41 = .ok (.invokevirtual 67, 3) := by decide +kernel
theorem dX10_bars_44 : decode cX10_bars 44 = .ok (.ireturn, 1) := by decide +kernel
theorem dX10_bars_45 : decode cX10_bars 45 = .ok (.aload_n 0, 1) := by decide +kernel
theorem dX10_bars_46 : decode cX10_bars 46 = .ok (.iload_n 1, 1) := by decide +kernel
theorem dX10_bars_47 : decode cX10_bars 47 = .ok (.iload_n 3, 1) := by decide +kernel
theorem dX10_bars_48 : decode cX10_bars 48 = .ok (.invokevirtual 396, 3) := by decide +kernel
theorem dX10_bars_51 : decode cX10_bars 51 = .ok (.aload_n 0, 1) := by decide +kernel
theorem dX10_bars_52 : decode cX10_bars 52 = .ok (.aload_n 0, 1) := by decide +kernel
theorem dX10_bars_53 : decode cX10_bars 53 = .ok (.iload_n 2, 1) := by decide +kernel
theorem dX10_bars_54 : decode cX10_bars 54 = .ok (.invokevirtual 384, 3) := by decide +kernel
theorem dX10_bars_57 : decode cX10_bars 57 = .ok (.invokevirtual 71, 3) := by decide +kernel
theorem dX10_bars_60 : decode cX10_bars 60 = .ok (.ireturn, 1) := by decide +kernel
theorem dX10_barsNow_0 : decode cX10_barsNow 0 = .ok (.bipush 7, 2) := by decide +kernel
theorem dX10_barsNow_2 : decode cX10_barsNow 2 = .ok (.istore_n 2, 1) := by decide +kernel
theorem dX10_barsNow_3 : decode cX10_barsNow 3 = .ok (.iconst 0, 1) := by decide +kernel
theorem dX10_barsNow_4 : decode cX10_barsNow 4 = .ok (.istore_n 3, 1) := by decide +kernel
theorem dX10_barsNow_5 : decode cX10_barsNow 5 = .ok (.iload_n 3, 1) := by decide +kernel
theorem dX10_barsNow_6 : decode cX10_barsNow 6 = .ok (.iconst 3, 1) := by decide +kernel
theorem dX10_barsNow_7 : decode cX10_barsNow 7 = .ok (.if_icmp .ge 34, 3) := by decide +kernel
theorem dX10_barsNow_10 : decode cX10_barsNow 10 = .ok (.aload_n 0, 1) := by decide +kernel
theorem dX10_barsNow_11 : decode cX10_barsNow 11 = .ok (.iload_n 3, 1) := by decide +kernel
theorem dX10_barsNow_12 : decode cX10_barsNow 12 = .ok (.invokevirtual 378, 3) := by decide +kernel
theorem dX10_barsNow_15 : decode cX10_barsNow 15 = .ok (.ifCond .eq 20, 3) := by decide +kernel
theorem dX10_barsNow_18 : decode cX10_barsNow 18 = .ok (.aload_n 0, 1) := by decide +kernel
theorem dX10_barsNow_19 : decode cX10_barsNow 19 = .ok (.iload_n 1, 1) := by decide +kernel
theorem dX10_barsNow_20 : decode cX10_barsNow 20 = .ok (.iload_n 3, 1) := by decide +kernel
theorem dX10_barsNow_21 : decode cX10_barsNow 21 = .ok (.invokevirtual 381, 3) := by decide +kernel
theorem dX10_barsNow_24 : decode cX10_barsNow 24 = .ok (.iload_n 2, 1) := by decide +kernel
theorem dX10_barsNow_25 : decode cX10_barsNow 25 = .ok (.if_icmp .ge 10, 3) := by decide +kernel
theorem dX10_barsNow_28 : decode cX10_barsNow 28 = .ok (.aload_n 0, 1) := by decide +kernel
theorem dX10_barsNow_29 : decode cX10_barsNow 29 = .ok (.iload_n 1, 1) := by decide +kernel
theorem dX10_barsNow_30 : decode cX10_barsNow 30 = .ok (.iload_n 3, 1) := by decide +kernel
theorem dX10_barsNow_31 : decode cX10_barsNow 31 = .ok (.invokevirtual 381, 3) := by decide +kernel
theorem dX10_barsNow_34 : decode cX10_barsNow 34 = .ok (.istore_n 2, 1) := by decide +kernel
theorem dX10_barsNow_35 : decode cX10_barsNow 35 = .ok (.iinc 3 1, 3) := by decide +kernel
theorem dX10_barsNow_38 : decode cX10_barsNow 38 = .ok (.goto (-33), 3) := by decide +kernel
theorem dX10_barsNow_41 : decode cX10_barsNow 41 = .ok (.iload_n 2, 1) := by decide +kernel
theorem dX10_barsNow_42 : decode cX10_barsNow 42 = .ok (.ireturn, 1) := by decide +kernel
theorem dX10_begins_0 : decode cX10_begins 0 = .ok (.iload_n 1, 1) := by decide +kernel
theorem dX10_begins_1 : decode cX10_begins 1 = .ok (.iload_n 2, 1) := by decide +kernel
theorem dX10_begins_2 : decode cX10_begins 2 = .ok (.if_icmp .ne 8, 3) := by decide +kernel
theorem dX10_begins_5 : decode cX10_begins 5 = .ok (.aload_n 0, 1) := by decide +kernel
theorem dX10_begins_6 : decode cX10_begins 6 = .ok (.iconst 5, 1) := by decide +kernel
theorem dX10_begins_7 : decode cX10_begins 7 = .ok (.invokevirtual 135, 3) := by decide +kernel
theorem dX10_begins_10 : decode cX10_begins 10 = .ok (.iload_n 3, 1) := by decide +kernel
theorem dX10_begins_11 : decode cX10_begins 11 = .ok (.ifCond .eq 19, 3) := by decide +kernel
theorem dX10_begins_14 : decode cX10_begins 14 = .ok (.aload_n 0, 1) := by decide +kernel
theorem dX10_begins_15 : decode cX10_begins 15 = .ok (.getfield 170, 3) := by decide +kernel
theorem dX10_begins_18 : decode cX10_begins 18 = .ok (.getfield 174, 3) := by decide +kernel
theorem dX10_begins_21 : decode cX10_begins 21 = .ok (.ifCond .ne 9, 3) := by decide +kernel
theorem dX10_begins_24 : decode cX10_begins 24 = .ok (.aload_n 0, 1) := by decide +kernel
theorem dX10_begins_25 : decode cX10_begins 25 = .ok (.bipush 6, 2) := by decide +kernel
theorem dX10_begins_27 : decode cX10_begins 27 = .ok (.invokevirtual 135, 3) := by decide +kernel
theorem dX10_begins_30 : decode cX10_begins 30 = .ok (.aload_n 0, 1) := by decide +kernel
theorem dX10_begins_31 : decode cX10_begins 31 = .ok (.invokevirtual 132, 3) := by decide +kernel
theorem dX10_begins_34 : decode cX10_begins 34 = .ok (.return_, 1) := by decide +kernel
theorem dX10_bestLoads_0 : decode cX10_bestLoads 0 = .ok (.aload_n 0, 1) := by decide +kernel
theorem dX10_bestLoads_1 : decode cX10_bestLoads 1 = .ok (.getfield 442, 3) := by decide +kernel
theorem dX10_bestLoads_4 : decode cX10_bestLoads 4 = .ok (.ifCond .eq 23, 3) := by decide +kernel
theorem dX10_bestLoads_7 : decode cX10_bestLoads 7 = .ok (.aload_n 0, 1) := by decide +kernel
theorem dX10_bestLoads_8 : decode cX10_bestLoads 8 = .ok (.getfield 336, 3) := by decide +kernel
theorem dX10_bestLoads_11 : decode cX10_bestLoads 11 = .ok (.getfield 289, 3) := by decide +kernel
theorem dX10_bestLoads_14 : decode cX10_bestLoads 14 = .ok (.aload_n 0, 1) := by decide +kernel
theorem dX10_bestLoads_15 : decode cX10_bestLoads 15 = .ok (.getfield 336, 3) := by decide +kernel
theorem dX10_bestLoads_18 : decode cX10_bestLoads 18 = .ok (.getfield 313, 3) := by decide +kernel
theorem dX10_bestLoads_21 : decode cX10_bestLoads 21 = .ok (.iload_n 1, 1) := by decide +kernel
theorem dX10_bestLoads_22 : decode cX10_bestLoads 22 = .ok (.iaload, 1) := by decide +kernel
theorem dX10_bestLoads_23 : decode cX10_bestLoads 23 = .ok (.iaload, 1) := by decide +kernel
theorem dX10_bestLoads_24 : decode cX10_bestLoads 24 = .ok (.goto 4, 3) := by decide +kernel
theorem dX10_bestLoads_27 : decode cX10_bestLoads 27 = .ok (.iconst 1, 1) := by decide +kernel
theorem dX10_bestLoads_28 : decode cX10_bestLoads 28 = .ok (.ireturn, 1) := by decide +kernel
theorem dX10_bounded_0 : decode cX10_bounded 0 = .ok (.aload_n 0, 1) := by decide +kernel
theorem dX10_bounded_1 : decode cX10_bounded 1 = .ok (.getfield 89, 3) := by decide +kernel
theorem dX10_bounded_4 : decode cX10_bounded 4 = .ok (.iconst 3, 1) := by decide +kernel
theorem dX10_bounded_5 : decode cX10_bounded 5 = .ok (.if_icmp .eq 11, 3) := by decide +kernel
theorem dX10_bounded_8 : decode cX10_bounded 8 = .ok (.aload_n 0, 1) := by decide +kernel
theorem dX10_bounded_9 : decode cX10_bounded 9 = .ok (.iconst 1, 1) := by decide +kernel
theorem dX10_bounded_10 : decode cX10_bounded 10 = .ok (.invokevirtual 135, 3) := by decide +kernel
theorem dX10_bounded_13 : decode cX10_bounded 13 = .ok (.goto 20, 3) := by decide +kernel
theorem dX10_bounded_16 : decode cX10_bounded 16 = .ok (.aload_n 0, 1) := by decide +kernel
theorem dX10_bounded_17 : decode cX10_bounded 17 = .ok (.getfield 115, 3) := by decide +kernel
theorem dX10_bounded_20 : decode cX10_bounded 20 = .ok (.iload_n 1, 1) := by decide +kernel
theorem dX10_bounded_21 : decode cX10_bounded 21 = .ok (.iload_n 2, 1) := by decide +kernel
theorem dX10_bounded_22 : decode cX10_bounded 22 = .ok (.invokestatic 139, 3) := by decide +kernel
theorem dX10_bounded_25 : decode cX10_bounded 25 = .ok (.ifCond .ne 8, 3) := by decide +kernel
theorem dX10_bounded_28 : decode cX10_bounded 28 = .ok (.aload_n 0, 1) := by decide +kernel
theorem dX10_bounded_29 : decode cX10_bounded 29 = .ok (.iconst 4, 1) := by decide +kernel
theorem dX10_bounded_30 : decode cX10_bounded 30 = .ok (.invokevirtual 135, 3) := by decide +kernel
theorem dX10_bounded_33 : decode cX10_bounded 33 = .ok (.aload_n 0, 1) := by decide +kernel
theorem dX10_bounded_34 : decode cX10_bounded 34 = .ok (.getfield 89, 3) := by decide +kernel
theorem dX10_bounded_37 : decode cX10_bounded 37 = .ok (.iconst 5, 1) := by decide +kernel
theorem dX10_bounded_38 : decode cX10_bounded 38 = .ok (.if_icmp .ne 7, 3) := by decide +kernel
theorem dX10_bounded_41 : decode cX10_bounded 41 = .ok (.iload_n 1, 1) := by decide +kernel
theorem dX10_bounded_42 : decode cX10_bounded 42 = .ok (.goto 7, 3) := by decide +kernel
theorem dX10_bounded_45 : decode cX10_bounded 45 = .ok (.aload_n 0, 1) := by decide +kernel
theorem dX10_bounded_46 : decode cX10_bounded 46 = .ok (.getfield 115, 3) := by decide +kernel
theorem dX10_bounded_49 : decode cX10_bounded 49 = .ok (.ireturn, 1) := by decide +kernel
theorem dX10_breach_0 : decode cX10_breach 0 = .ok (.aload_n 0, 1) := by decide +kernel
theorem dX10_breach_1 : decode cX10_breach 1 = .ok (.iconst 0, 1) := by decide +kernel
theorem dX10_breach_2 : decode cX10_breach 2 = .ok (.putfield 61, 3) := by decide +kernel
theorem dX10_breach_5 : decode cX10_breach 5 = .ok (.aload_n 0, 1) := by decide +kernel
theorem dX10_breach_6 : decode cX10_breach 6 = .ok (.getfield 336, 3) := by decide +kernel
theorem dX10_breach_9 : decode cX10_breach 9 = .ok (.ifnonnull 9, 3) := by decide +kernel
theorem dX10_breach_12 : decode cX10_breach 12 = .ok (.aload_n 0, 1) := by decide +kernel
theorem dX10_breach_13 : decode cX10_breach 13 = .ok (.iconst 1, 1) := by decide +kernel
theorem dX10_breach_14 : decode cX10_breach 14 = .ok (.invokevirtual 67, 3) := by decide +kernel
theorem dX10_breach_17 : decode cX10_breach 17 = .ok (.ireturn, 1) := by decide +kernel
theorem dX10_breach_18 : decode cX10_breach 18 = .ok (.iload_n 1, 1) := by decide +kernel
theorem dX10_breach_19 : decode cX10_breach 19 = .ok (.invokestatic 510, 3) := by decide +kernel
theorem dX10_breach_22 : decode cX10_breach 22 = .ok (.ifCond .eq 10, 3) := by decide +kernel
theorem dX10_breach_25 : decode cX10_breach 25 = .ok (.iload_n 2, 1) := by decide +kernel
theorem dX10_breach_26 : decode cX10_breach 26 = .ok (.invokestatic 510, 3) := by decide +kernel
theorem dX10_breach_29 : decode cX10_breach 29 = .ok (.ifCond .ne 9, 3) := by decide +kernel
theorem dX10_breach_32 : decode cX10_breach 32 = .ok (.aload_n 0, 1) := by decide +kernel
theorem dX10_breach_33 : decode cX10_breach 33 = .ok (.iconst 2, 1) := by decide +kernel
theorem dX10_breach_34 : decode cX10_breach 34 = .ok (.invokevirtual 67, 3) := by decide +kernel
theorem dX10_breach_37 : decode cX10_breach 37 = .ok (.ireturn, 1) := by decide +kernel
theorem dX10_breach_38 : decode cX10_breach 38 = .ok (.aload_n 0, 1) := by decide +kernel
theorem dX10_breach_39 : decode cX10_breach 39 = .ok (.getfield 339, 3) := by decide +kernel
theorem dX10_breach_42 : decode cX10_breach 42 = .ok (.ifCond .ne 10, 3) := by decide +kernel
theorem dX10_breach_45 : decode cX10_breach 45 = .ok (.aload_n 0, 1) := by decide +kernel
theorem dX10_breach_46 : decode cX10_breach 46 = .ok (.bipush 6, 2) := by decide +kernel
theorem dX10_breach_48 : decode cX10_breach 48 = .ok (.invokevirtual 67, 3) := by decide +kernel
theorem dX10_breach_51 : decode cX10_breach 51 = .ok (.ireturn, 1) := by decide +kernel
theorem dX10_breach_52 : decode cX10_breach 52 = .ok (.iconst 0, 1) := by decide +kernel
theorem dX10_breach_53 : decode cX10_breach 53 = .ok (.istore_n 3, 1) := by decide +kernel
theorem dX10_breach_54 : decode cX10_breach 54 = .ok (.iconst 1, 1) := by decide +kernel
theorem dX10_breach_55 : decode cX10_breach 55 = .ok (.istore 4, 2) := by decide +kernel
theorem dX10_breach_57 : decode cX10_breach 57 = .ok (.iload 4, 2) := by decide +kernel
theorem dX10_breach_59 : decode cX10_breach 59 = .ok (.aload_n 0, 1) := by decide +kernel
theorem dX10_breach_60 : decode cX10_breach 60 = .ok (.getfield 339, 3) := by decide +kernel
theorem dX10_breach_63 : decode cX10_breach 63 = .ok (.if_icmp .ge 30, 3) := by decide +kernel
theorem dX10_breach_66 : decode cX10_breach 66 = .ok (.aload_n 0, 1) := by decide +kernel
theorem dX10_breach_67 : decode cX10_breach 67 = .ok (.iload 4, 2) := by decide +kernel
theorem dX10_breach_69 : decode cX10_breach 69 = .ok (.iload_n 1, 1) := by decide +kernel
theorem dX10_breach_70 : decode cX10_breach 70 = .ok (.iload_n 2, 1) := by decide +kernel
theorem dX10_breach_71 : decode cX10_breach 71 = .ok (.invokevirtual 513, 3) := by decide +kernel
theorem dX10_breach_74 : decode cX10_breach 74 = .ok (.aload_n 0, 1) := by decide +kernel
theorem dX10_breach_75 : decode cX10_breach 75 = .ok (.iload_n 3, 1) := by decide +kernel
theorem dX10_breach_76 : decode cX10_breach 76 = .ok (.iload_n 1, 1) := by decide +kernel
theorem dX10_breach_77 : decode cX10_breach 77 = .ok (.iload_n 2, 1) := by decide +kernel
theorem dX10_breach_78 : decode cX10_breach 78 = .ok (.invokevirtual 513, 3) := by decide +kernel
theorem dX10_breach_81 : decode cX10_breach 81 = .ok (.if_icmp .le 6, 3) := by decide +kernel
theorem dX10_breach_84 : decode cX10_breach 84 = .ok (.iload 4, 2) := by decide +kernel
theorem dX10_breach_86 : decode cX10_breach 86 = .ok (.istore_n 3, 1) := by decide +kernel
theorem dX10_breach_87 : decode cX10_breach 87 = .ok (.iinc 4 1, 3) := by decide +kernel
theorem dX10_breach_90 : decode cX10_breach 90 = .ok (.goto (-33), 3) := by decide +kernel
theorem dX10_breach_93 : decode cX10_breach 93 = .ok (.aload_n 0, 1) := by decide +kernel
theorem dX10_breach_94 : decode cX10_breach 94 = .ok (.iload_n 3, 1) := by decide +kernel
theorem dX10_breach_95 : decode cX10_breach 95 = .ok (.invokevirtual 71, 3) := by decide +kernel
theorem dX10_breach_98 : decode cX10_breach 98 = .ok (.ireturn, 1) := by decide +kernel
theorem dX10_busy_0 : decode cX10_busy 0 = .ok (.aload_n 0, 1) := by decide +kernel
theorem dX10_busy_1 : decode cX10_busy 1 = .ok (.iconst 0, 1) := by decide +kernel
theorem dX10_busy_2 : decode cX10_busy 2 = .ok (.putfield 61, 3) := by decide +kernel
theorem dX10_busy_5 : decode cX10_busy 5 = .ok (.aload_n 0, 1) := by decide +kernel
theorem dX10_busy_6 : decode cX10_busy 6 = .ok (.iload_n 1, 1) := by decide +kernel
theorem dX10_busy_7 : decode cX10_busy 7 = .ok (.invokevirtual 346, 3) := by decide +kernel
theorem dX10_busy_10 : decode cX10_busy 10 = .ok (.ifCond .eq 15, 3) := by decide +kernel
theorem dX10_busy_13 : decode cX10_busy 13 = .ok (.aload_n 0, 1) := by decide +kernel
theorem dX10_busy_14 : decode cX10_busy 14 = .ok (.aload_n 0, 1) := by decide +kernel
theorem dX10_busy_15 : decode cX10_busy 15 = .ok (.iload_n 1, 1) := by decide +kernel
theorem dX10_busy_16 : decode cX10_busy 16 = .ok (.invokevirtual 486, 3) := by decide +kernel
theorem dX10_busy_19 : decode cX10_busy 19 = .ok (.invokevirtual 71, 3) := by decide +kernel
theorem dX10_busy_22 : decode cX10_busy 22 = .ok (.goto 8, 3) := by decide +kernel
theorem dX10_busy_25 : decode cX10_busy 25 = .ok (.aload_n 0, 1) := by decide +kernel
theorem dX10_busy_26 : decode cX10_busy 26 = .ok (.iconst 1, 1) := by decide +kernel
theorem dX10_busy_27 : decode cX10_busy 27 = .ok (.invokevirtual 67, 3) := by decide +kernel
theorem dX10_busy_30 : decode cX10_busy 30 = .ok (.ireturn, 1) := by decide +kernel
theorem dX10_busyAt_0 : decode cX10_busyAt 0 = .ok (.iconst 0, 1) := by decide +kernel
theorem dX10_busyAt_1 : decode cX10_busyAt 1 = .ok (.istore_n 2, 1) := by decide +kernel
theorem dX10_busyAt_2 : decode cX10_busyAt 2 = .ok (.iload_n 2, 1) := by decide +kernel
theorem dX10_busyAt_3 : decode cX10_busyAt 3 = .ok (.aload_n 0, 1) := by decide +kernel
theorem dX10_busyAt_4 : decode cX10_busyAt 4 = .ok (.getfield 471, 3) := by decide +kernel
theorem dX10_busyAt_7 : decode cX10_busyAt 7 = .ok (.if_icmp .ge 35, 3) := by decide +kernel
theorem dX10_busyAt_10 : decode cX10_busyAt 10 = .ok (.aload_n 0, 1) := by decide +kernel
theorem dX10_busyAt_11 : decode cX10_busyAt 11 = .ok (.getfield 31, 3) := by decide +kernel
theorem dX10_busyAt_14 : decode cX10_busyAt 14 = .ok (.bipush 9, 2) := by decide +kernel
theorem dX10_busyAt_16 : decode cX10_busyAt 16 = .ok (.iload_n 2, 1) := by decide +kernel
theorem dX10_busyAt_17 : decode cX10_busyAt 17 = .ok (.imul, 1) := by decide +kernel
theorem dX10_busyAt_18 : decode cX10_busyAt 18 = .ok (.iconst 2, 1) := by decide +kernel
theorem dX10_busyAt_19 : decode cX10_busyAt 19 = .ok (.iadd, 1) := by decide +kernel
theorem dX10_busyAt_20 : decode cX10_busyAt 20 = .ok (.iaload, 1) := by decide +kernel
theorem dX10_busyAt_21 : decode cX10_busyAt 21 = .ok (.iconst 4, 1) := by decide +kernel
theorem dX10_busyAt_22 : decode cX10_busyAt 22 = .ok (.if_icmp .ne 14, 3) := by decide +kernel
theorem dX10_busyAt_25 : decode cX10_busyAt 25 = .ok (.aload_n 0, 1) := by decide +kernel
theorem dX10_busyAt_26 : decode cX10_busyAt 26 = .ok (.iload_n 2, 1) := by decide +kernel
theorem dX10_busyAt_27 : decode cX10_busyAt 27 = .ok (.invokevirtual 477, 3) := by decide +kernel
theorem dX10_busyAt_30 : decode cX10_busyAt 30 = .ok (.iload_n 1, 1) := by decide +kernel
theorem dX10_busyAt_31 : decode cX10_busyAt 31 = .ok (.if_icmp .ne 5, 3) := by decide +kernel
theorem dX10_busyAt_34 : decode cX10_busyAt 34 = .ok (.iload_n 2, 1) := by decide +kernel
theorem dX10_busyAt_35 : decode cX10_busyAt 35 = .ok (.ireturn, 1) := by decide +kernel
theorem dX10_busyAt_36 : decode cX10_busyAt 36 = .ok (.iinc 2 1, 3) := by decide +kernel
theorem dX10_busyAt_39 : decode cX10_busyAt 39 = .ok (.goto (-37), 3) := by decide +kernel
theorem dX10_busyAt_42 : decode cX10_busyAt 42 = .ok (.bipush (-2), 2) := by decide +kernel
theorem dX10_busyAt_44 : decode cX10_busyAt 44 = .ok (.ireturn, 1) := by decide +kernel
theorem dX10_byteAt_0 : decode cX10_byteAt 0 = .ok (.iload_n 1, 1) := by decide +kernel
theorem dX10_byteAt_1 : decode cX10_byteAt 1 = .ok (.aload_n 0, 1) := by decide +kernel
theorem dX10_byteAt_2 : decode cX10_byteAt 2 = .ok (.getfield 74, 3) := by decide +kernel
theorem dX10_byteAt_5 : decode cX10_byteAt 5 = .ok (.if_icmp .ge 16, 3) := by decide +kernel
theorem dX10_byteAt_8 : decode cX10_byteAt 8 = .ok (.aload_n 0, 1) := by decide +kernel
theorem dX10_byteAt_9 : decode cX10_byteAt 9 = .ok (.getfield 13, 3) := by decide +kernel
theorem dX10_byteAt_12 : decode cX10_byteAt 12 = .ok (.iload_n 1, 1) := by decide +kernel
theorem dX10_byteAt_13 : decode cX10_byteAt 13 = .ok (.baload, 1) := by decide +kernel
theorem dX10_byteAt_14 : decode cX10_byteAt 14 = .ok (.sipush 255, 3) := by decide +kernel
theorem dX10_byteAt_17 : decode cX10_byteAt 17 = .ok (.iand, 1) := by decide +kernel
theorem dX10_byteAt_18 : decode cX10_byteAt 18 = .ok (.goto 4, 3) := by decide +kernel
theorem dX10_byteAt_21 : decode cX10_byteAt 21 = .ok (.iconst (-1), 1) := by decide +kernel
theorem dX10_byteAt_22 : decode cX10_byteAt 22 = .ok (.ireturn, 1) := by decide +kernel
theorem dX10_canCut_0 : decode cX10_canCut 0 = .ok (.aload_n 0, 1) := by decide +kernel
theorem dX10_canCut_1 : decode cX10_canCut 1 = .ok (.getfield 336, 3) := by decide +kernel
theorem dX10_canCut_4 : decode cX10_canCut 4 = .ok (.getfield 289, 3) := by decide +kernel
theorem dX10_canCut_7 : decode cX10_canCut 7 = .ok (.iload_n 1, 1) := by decide +kernel
theorem dX10_canCut_8 : decode cX10_canCut 8 = .ok (.iaload, 1) := by decide +kernel
theorem dX10_canCut_9 : decode cX10_canCut 9 = .ok (.ifCond .le 19, 3) := by decide +kernel
theorem dX10_canCut_12 : decode cX10_canCut 12 = .ok (.aload_n 0, 1) := by decide +kernel
theorem dX10_canCut_13 : decode cX10_canCut 13 = .ok (.getfield 336, 3) := by decide +kernel
theorem dX10_canCut_16 : decode cX10_canCut 16 = .ok (.getfield 293, 3) := by decide +kernel
theorem dX10_canCut_19 : decode cX10_canCut 19 = .ok (.iload_n 1, 1) := by decide +kernel
theorem dX10_canCut_20 : decode cX10_canCut 20 = .ok (.baload, 1) := by decide +kernel
theorem dX10_canCut_21 : decode cX10_canCut 21 = .ok (.ifCond .ne 7, 3) := by decide +kernel
theorem dX10_canCut_24 : decode cX10_canCut 24 = .ok (.iconst 1, 1) := by decide +kernel
theorem dX10_canCut_25 : decode cX10_canCut 25 = .ok (.goto 4, 3) := by decide +kernel
theorem dX10_canCut_28 : decode cX10_canCut 28 = .ok (.iconst 0, 1) := by decide +kernel
theorem dX10_canCut_29 : decode cX10_canCut 29 = .ok (.ireturn, 1) := by decide +kernel
theorem dX10_cart_0 : decode cX10_cart 0 = .ok (.aload_n 0, 1) := by decide +kernel
theorem dX10_cart_1 : decode cX10_cart 1 = .ok (.iconst 0, 1) := by decide +kernel
theorem dX10_cart_2 : decode cX10_cart 2 = .ok (.putfield 61, 3) := by decide +kernel
theorem dX10_cart_5 : decode cX10_cart 5 = .ok (.aload_n 0, 1) := by decide +kernel
theorem dX10_cart_6 : decode cX10_cart 6 = .ok (.getfield 336, 3) := by decide +kernel
theorem dX10_cart_9 : decode cX10_cart 9 = .ok (.ifnull 30, 3) := by decide +kernel
theorem dX10_cart_12 : decode cX10_cart 12 = .ok (.iload_n 1, 1) := by decide +kernel
theorem dX10_cart_13 : decode cX10_cart 13 = .ok (.ifCond .lt 26, 3) := by decide +kernel
theorem dX10_cart_16 : decode cX10_cart 16 = .ok (.iload_n 1, 1) := by decide +kernel
theorem dX10_cart_17 : decode cX10_cart 17 = .ok (.aload_n 0, 1) := by decide +kernel
theorem dX10_cart_18 : decode cX10_cart 18 = .ok (.getfield 336, 3) := by decide +kernel
theorem dX10_cart_21 : decode cX10_cart 21 = .ok (.getfield 249, 3) := by decide +kernel
theorem dX10_cart_24 : decode cX10_cart 24 = .ok (.if_icmp .ge 15, 3) := by decide +kernel
theorem dX10_cart_27 : decode cX10_cart 27 = .ok (.aload_n 0, 1) := by decide +kernel
theorem dX10_cart_28 : decode cX10_cart 28 = .ok (.aload_n 0, 1) := by decide +kernel
theorem dX10_cart_29 : decode cX10_cart 29 = .ok (.iload_n 1, 1) := by decide +kernel
theorem dX10_cart_30 : decode cX10_cart 30 = .ok (.invokevirtual 489, 3) := by decide +kernel
theorem dX10_cart_33 : decode cX10_cart 33 = .ok (.invokevirtual 71, 3) := by decide +kernel
theorem dX10_cart_36 : decode cX10_cart 36 = .ok (.goto 8, 3) := by decide +kernel
theorem dX10_cart_39 : decode cX10_cart 39 = .ok (.aload_n 0, 1) := by decide +kernel
theorem dX10_cart_40 : decode cX10_cart 40 = .ok (.iconst 1, 1) := by decide +kernel
theorem dX10_cart_41 : decode cX10_cart 41 = .ok (.invokevirtual 67, 3) := by decide +kernel
theorem dX10_cart_44 : decode cX10_cart 44 = .ok (.ireturn, 1) := by decide +kernel
theorem dX10_city_0 : decode cX10_city 0 = .ok (.aload_n 0, 1) := by decide +kernel
theorem dX10_city_1 : decode cX10_city 1 = .ok (.iconst 0, 1) := by decide +kernel
theorem dX10_city_2 : decode cX10_city 2 = .ok (.putfield 61, 3) := by decide +kernel
theorem dX10_city_5 : decode cX10_city 5 = .ok (.iload_n 1, 1) := by decide +kernel
theorem dX10_city_6 : decode cX10_city 6 = .ok (.ifCond .lt 11, 3) := by decide +kernel
theorem dX10_city_9 : decode cX10_city 9 = .ok (.iload_n 1, 1) := by decide +kernel
theorem dX10_city_10 : decode cX10_city 10 = .ok (.aload_n 0, 1) := by decide +kernel
theorem dX10_city_11 : decode cX10_city 11 = .ok (.getfield 329, 3) := by decide +kernel
theorem dX10_city_14 : decode cX10_city 14 = .ok (.if_icmp .le 9, 3) := by decide +kernel
theorem dX10_city_17 : decode cX10_city 17 = .ok (.aload_n 0, 1) := by decide +kernel
theorem dX10_city_18 : decode cX10_city 18 = .ok (.iconst 2, 1) := by decide +kernel
theorem dX10_city_19 : decode cX10_city 19 = .ok (.invokevirtual 67, 3) := by decide +kernel
theorem dX10_city_22 : decode cX10_city 22 = .ok (.ireturn, 1) := by decide +kernel
theorem dX10_city_23 : decode cX10_city 23 = .ok (.aload_n 0, 1) := by decide +kernel
theorem dX10_city_24 : decode cX10_city 24 = .ok (.iload_n 1, 1) := by decide +kernel
theorem dX10_city_25 : decode cX10_city 25 = .ok (.putfield 74, 3) := by decide +kernel
theorem dX10_city_28 : decode cX10_city 28 = .ok (.aload_n 0, 1) := by decide +kernel
theorem dX10_city_29 : decode cX10_city 29 = .ok (.iconst 0, 1) := by decide +kernel
theorem dX10_city_30 : decode cX10_city 30 = .ok (.putfield 329, 3) := by decide +kernel
theorem dX10_city_33 : decode cX10_city 33 = .ok (.aload_n 0, 1) := by decide +kernel
theorem dX10_city_34 : decode cX10_city 34 = .ok (.iconst 0, 1) := by decide +kernel
theorem dX10_city_35 : decode cX10_city 35 = .ok (.putfield 92, 3) := by decide +kernel
theorem dX10_city_38 : decode cX10_city 38 = .ok (.aload_n 0, 1) := by decide +kernel
theorem dX10_city_39 : decode cX10_city 39 = .ok (.iconst 0, 1) := by decide +kernel
theorem dX10_city_40 : decode cX10_city 40 = .ok (.putfield 118, 3) := by decide +kernel
theorem dX10_city_43 : decode cX10_city 43 = .ok (.aload_n 0, 1) := by decide +kernel
theorem dX10_city_44 : decode cX10_city 44 = .ok (.new 175, 3) := by decide +kernel
theorem dX10_city_47 : decode cX10_city 47 = .ok (.dup, 1) := by decide +kernel
theorem dX10_city_48 : decode cX10_city 48 = .ok (.invokespecial 332, 3) := by decide +kernel
theorem dX10_city_51 : decode cX10_city 51 = .ok (.putfield 170, 3) := by decide +kernel
theorem dX10_city_54 : decode cX10_city 54 = .ok (.aload_n 0, 1) := by decide +kernel
theorem dX10_city_55 : decode cX10_city 55 = .ok (.iconst 0, 1) := by decide +kernel
theorem dX10_city_56 : decode cX10_city 56 = .ok (.putfield 89, 3) := by decide +kernel
theorem dX10_city_59 : decode cX10_city 59 = .ok (.aload_n 0, 1) := by decide +kernel
theorem dX10_city_60 : decode cX10_city 60 = .ok (.invokevirtual 132, 3) := by decide +kernel
theorem dX10_city_63 : decode cX10_city 63 = .ok (.aload_n 0, 1) := by decide +kernel
theorem dX10_city_64 : decode cX10_city 64 = .ok (.invokevirtual 333, 3) := by decide +kernel
theorem dX10_city_67 : decode cX10_city 67 = .ok (.aload_n 0, 1) := by decide +kernel
theorem dX10_city_68 : decode cX10_city 68 = .ok (.getfield 118, 3) := by decide +kernel
theorem dX10_city_71 : decode cX10_city 71 = .ok (.ifCond .le 18, 3) := by decide +kernel
theorem dX10_city_74 : decode cX10_city 74 = .ok (.aload_n 0, 1) := by decide +kernel
theorem dX10_city_75 : decode cX10_city 75 = .ok (.iconst 4, 1) := by decide +kernel
theorem dX10_city_76 : decode cX10_city 76 = .ok (.putfield 64, 3) := by decide +kernel
theorem dX10_city_79 : decode cX10_city 79 = .ok (.aload_n 0, 1) := by decide +kernel
theorem dX10_city_80 : decode cX10_city 80 = .ok (.aload_n 0, 1) := by decide +kernel
theorem dX10_city_81 : decode cX10_city 81 = .ok (.getfield 121, 3) := by decide +kernel
theorem dX10_city_84 : decode cX10_city 84 = .ok (.putfield 9, 3) := by decide +kernel
theorem dX10_city_87 : decode cX10_city 87 = .ok (.iconst (-1), 1) := by decide +kernel
theorem dX10_city_88 : decode cX10_city 88 = .ok (.ireturn, 1) := by decide +kernel
theorem dX10_city_89 : decode cX10_city 89 = .ok (.aload_n 0, 1) := by decide +kernel
theorem dX10_city_90 : decode cX10_city 90 = .ok (.aload_n 0, 1) := by decide +kernel
theorem dX10_city_91 : decode cX10_city 91 = .ok (.getfield 170, 3) := by decide +kernel
theorem dX10_city_94 : decode cX10_city 94 = .ok (.putfield 336, 3) := by decide +kernel
theorem dX10_city_97 : decode cX10_city 97 = .ok (.iconst 0, 1) := by decide +kernel
theorem dX10_city_98 : decode cX10_city 98 = .ok (.istore_n 2, 1) := by decide +kernel
theorem dX10_city_99 : decode cX10_city 99 = .ok (.iload_n 2, 1) := by decide +kernel
theorem dX10_city_100 : decode cX10_city 100 = .ok (.aload_n 0, 1) := by decide +kernel
theorem dX10_city_101 : decode cX10_city 101 = .ok (.getfield 17, 3) := by decide +kernel
theorem dX10_city_104 : decode cX10_city 104 = .ok (.arraylength, 1) := by decide +kernel
theorem dX10_city_105 : decode cX10_city 105 = .ok (.if_icmp .ge 24, 3) := by decide +kernel
theorem dX10_city_108 : decode cX10_city 108 = .ok (.aload_n 0, 1) := by decide +kernel
theorem dX10_city_109 : decode cX10_city 109 = .ok (.getfield 17, 3) := by decide +kernel
theorem dX10_city_112 : decode cX10_city 112 = .ok (.iload_n 2, 1) := by decide +kernel
theorem dX10_city_113 : decode cX10_city 113 = .ok (.aload_n 0, 1) := by decide +kernel
theorem dX10_city_114 : decode cX10_city 114 = .ok (.getfield 336, 3) := by decide +kernel
theorem dX10_city_117 : decode cX10_city 117 = .ok (.getfield 242, 3) := by decide +kernel
theorem dX10_city_120 : decode cX10_city 120 = .ok (.iload_n 2, 1) := by decide +kernel
theorem dX10_city_121 : decode cX10_city 121 = .ok (.iaload, 1) := by decide +kernel
theorem dX10_city_122 : decode cX10_city 122 = .ok (.iastore, 1) := by decide +kernel
theorem dX10_city_123 : decode cX10_city 123 = .ok (.iinc 2 1, 3) := by decide +kernel
theorem dX10_city_126 : decode cX10_city 126 = .ok (.goto (-27), 3) := by decide +kernel
theorem dX10_city_129 : decode cX10_city 129 = .ok (.aload_n 0, 1) := by decide +kernel
theorem dX10_city_130 : decode cX10_city 130 = .ok (.aload_n 0, 1) := by decide +kernel
theorem dX10_city_131 : decode cX10_city 131 = .ok (.getfield 336, 3) := by decide +kernel
theorem dX10_city_134 : decode cX10_city 134 = .ok (.getfield 213, 3) := by decide +kernel
theorem dX10_city_137 : decode cX10_city 137 = .ok (.putfield 339, 3) := by decide +kernel
theorem dX10_city_140 : decode cX10_city 140 = .ok (.aload_n 0, 1) := by decide +kernel
theorem dX10_city_141 : decode cX10_city 141 = .ok (.iconst 0, 1) := by decide +kernel
theorem dX10_city_142 : decode cX10_city 142 = .ok (.putfield 340, 3) := by decide +kernel
theorem dX10_city_145 : decode cX10_city 145 = .ok (.aload_n 0, 1) := by decide +kernel
theorem dX10_city_146 : decode cX10_city 146 = .ok (.invokevirtual 343, 3) := by decide +kernel
theorem dX10_city_149 : decode cX10_city 149 = .ok (.aload_n 0, 1) := by decide +kernel
theorem dX10_city_150 : decode cX10_city 150 = .ok (.aload_n 0, 1) := by decide +kernel
theorem dX10_city_151 : decode cX10_city 151 = .ok (.getfield 336, 3) := by decide +kernel
theorem dX10_city_154 : decode cX10_city 154 = .ok (.getfield 174, 3) := by decide +kernel
theorem dX10_city_157 : decode cX10_city 157 = .ok (.invokevirtual 71, 3) := by decide +kernel
theorem dX10_city_160 : decode cX10_city 160 = .ok (.ireturn, 1) := by decide +kernel
theorem dX10_close_0 : decode cX10_close 0 = .ok (.aload_n 0, 1) := by decide +kernel
theorem dX10_close_1 : decode cX10_close 1 = .ok (.iconst 0, 1) := by decide +kernel
theorem dX10_close_2 : decode cX10_close 2 = .ok (.putfield 61, 3) := by decide +kernel
theorem dX10_close_5 : decode cX10_close 5 = .ok (.aload_n 0, 1) := by decide +kernel
theorem dX10_close_6 : decode cX10_close 6 = .ok (.iload_n 1, 1) := by decide +kernel
theorem dX10_close_7 : decode cX10_close 7 = .ok (.invokevirtual 346, 3) := by decide +kernel
theorem dX10_close_10 : decode cX10_close 10 = .ok (.ifCond .ne 9, 3) := by decide +kernel
theorem dX10_close_13 : decode cX10_close 13 = .ok (.aload_n 0, 1) := by decide +kernel
theorem dX10_close_14 : decode cX10_close 14 = .ok (.iconst 1, 1) := by decide +kernel
theorem dX10_close_15 : decode cX10_close 15 = .ok (.invokevirtual 504, 3) := by decide +kernel
theorem dX10_close_18 : decode cX10_close 18 = .ok (.ireturn, 1) := by decide +kernel
theorem dX10_close_19 : decode cX10_close 19 = .ok (.aload_n 0, 1) := by decide +kernel
theorem dX10_close_20 : decode cX10_close 20 = .ok (.iload_n 1, 1) := by decide +kernel
theorem dX10_close_21 : decode cX10_close 21 = .ok (.bipush 6, 2) := by decide +kernel
theorem dX10_close_23 : decode cX10_close 23 = .ok (.invokevirtual 349, 3) := by decide +kernel
theorem dX10_close_26 : decode cX10_close 26 = .ok (.iconst 1, 1) := by decide +kernel
theorem dX10_close_27 : decode cX10_close 27 = .ok (.if_icmp .ne 9, 3) := by decide +kernel
theorem dX10_close_30 : decode cX10_close 30 = .ok (.aload_n 0, 1) := by decide +kernel
theorem dX10_close_31 : decode cX10_close 31 = .ok (.iconst 5, 1) := by decide +kernel
theorem dX10_close_32 : decode cX10_close 32 = .ok (.invokevirtual 504, 3) := by decide +kernel
theorem dX10_close_35 : decode cX10_close 35 = .ok (.ireturn, 1) := by decide +kernel
theorem dX10_close_36 : decode cX10_close 36 = .ok (.aload_n 0, 1) := by decide +kernel
theorem dX10_close_37 : decode cX10_close 37 = .ok (.invokevirtual 532, 3) := by decide +kernel
theorem dX10_close_40 : decode cX10_close 40 = .ok (.aload_n 0, 1) := by decide +kernel
theorem dX10_close_41 : decode cX10_close 41 = .ok (.getfield 17, 3) := by decide +kernel
theorem dX10_close_44 : decode cX10_close 44 = .ok (.bipush 7, 2) := by decide +kernel
theorem dX10_close_46 : decode cX10_close 46 = .ok (.iload_n 1, 1) := by decide +kernel
theorem dX10_close_47 : decode cX10_close 47 = .ok (.imul, 1) := by decide +kernel
theorem dX10_close_48 : decode cX10_close 48 = .ok (.bipush 6, 2) := by decide +kernel
theorem dX10_close_50 : decode cX10_close 50 = .ok (.iadd, 1) := by decide +kernel
theorem dX10_close_51 : decode cX10_close 51 = .ok (.iconst 1, 1) := by decide +kernel
theorem dX10_close_52 : decode cX10_close 52 = .ok (.iastore, 1) := by decide +kernel
theorem dX10_close_53 : decode cX10_close 53 = .ok (.aload_n 0, 1) := by decide +kernel
theorem dX10_close_54 : decode cX10_close 54 = .ok (.invokevirtual 343, 3) := by decide +kernel
theorem dX10_close_57 : decode cX10_close 57 = .ok (.aload_n 0, 1) := by decide +kernel
theorem dX10_close_58 : decode cX10_close 58 = .ok (.invokevirtual 507, 3) := by decide +kernel
theorem dX10_close_61 : decode cX10_close 61 = .ok (.ireturn, 1) := by decide +kernel
theorem dX10_comes_0 : decode cX10_comes 0 = .ok (.bipush 9, 2) := by decide +kernel
theorem dX10_comes_2 : decode cX10_comes 2 = .ok (.iload_n 1, 1) := by decide +kernel
theorem dX10_comes_3 : decode cX10_comes 3 = .ok (.imul, 1) := by decide +kernel
theorem dX10_comes_4 : decode cX10_comes 4 = .ok (.istore_n 2, 1) := by decide +kernel
theorem dX10_comes_5 : decode cX10_comes 5 = .ok (.aload_n 0, 1) := by decide +kernel
theorem dX10_comes_6 : decode cX10_comes 6 = .ok (.iload_n 1, 1) := by decide +kernel
theorem dX10_comes_7 : decode cX10_comes 7 = .ok (.invokevirtual 474, 3) := by decide +kernel
theorem dX10_comes_10 : decode cX10_comes 10 = .ok (.ifCond .eq 32, 3) := by decide +kernel
theorem dX10_comes_13 : decode cX10_comes 13 = .ok (.aload_n 0, 1) := by decide +kernel
theorem dX10_comes_14 : decode cX10_comes 14 = .ok (.getfield 31, 3) := by decide +kernel
theorem dX10_comes_17 : decode cX10_comes 17 = .ok (.iload_n 2, 1) := by decide +kernel
theorem dX10_comes_18 : decode cX10_comes 18 = .ok (.iconst 2, 1) := by decide +kernel
theorem dX10_comes_19 : decode cX10_comes 19 = .ok (.iadd, 1) := by decide +kernel
theorem dX10_comes_20 : decode cX10_comes 20 = .ok (.iconst 5, 1) := by decide +kernel
theorem dX10_comes_21 : decode cX10_comes 21 = .ok (.iastore, 1) := by decide +kernel
theorem dX10_comes_22 : decode cX10_comes 22 = .ok (.aload_n 0, 1) := by decide +kernel
theorem dX10_comes_23 : decode cX10_comes 23 = .ok (.getfield 31, 3) := by decide +kernel
theorem dX10_comes_26 : decode cX10_comes 26 = .ok (.iload_n 2, 1) := by decide +kernel
theorem dX10_comes_27 : decode cX10_comes 27 = .ok (.bipush 6, 2) := by decide +kernel
theorem dX10_comes_29 : decode cX10_comes 29 = .ok (.iadd, 1) := by decide +kernel
theorem dX10_comes_30 : decode cX10_comes 30 = .ok (.aload_n 0, 1) := by decide +kernel
theorem dX10_comes_31 : decode cX10_comes 31 = .ok (.getfield 31, 3) := by decide +kernel
theorem dX10_comes_34 : decode cX10_comes 34 = .ok (.sipush 670, 3) := by decide +kernel
theorem dX10_comes_37 : decode cX10_comes 37 = .ok (.iaload, 1) := by decide +kernel
theorem dX10_comes_38 : decode cX10_comes 38 = .ok (.iastore, 1) := by decide +kernel
theorem dX10_comes_39 : decode cX10_comes 39 = .ok (.goto 29, 3) := by decide +kernel
theorem dX10_comes_42 : decode cX10_comes 42 = .ok (.aload_n 0, 1) := by decide +kernel
theorem dX10_comes_43 : decode cX10_comes 43 = .ok (.getfield 31, 3) := by decide +kernel
theorem dX10_comes_46 : decode cX10_comes 46 = .ok (.iload_n 2, 1) := by decide +kernel
theorem dX10_comes_47 : decode cX10_comes 47 = .ok (.iconst 2, 1) := by decide +kernel
theorem dX10_comes_48 : decode cX10_comes 48 = .ok (.iadd, 1) := by decide +kernel
theorem dX10_comes_49 : decode cX10_comes 49 = .ok (.iconst 3, 1) := by decide +kernel
theorem dX10_comes_50 : decode cX10_comes 50 = .ok (.iastore, 1) := by decide +kernel
theorem dX10_comes_51 : decode cX10_comes 51 = .ok (.aload_n 0, 1) := by decide +kernel
theorem dX10_comes_52 : decode cX10_comes 52 = .ok (.getfield 31, 3) := by decide +kernel
theorem dX10_comes_55 : decode cX10_comes 55 = .ok (.iload_n 2, 1) := by decide +kernel
theorem dX10_comes_56 : decode cX10_comes 56 = .ok (.bipush 7, 2) := by decide +kernel
theorem dX10_comes_58 : decode cX10_comes 58 = .ok (.iadd, 1) := by decide +kernel
theorem dX10_comes_59 : decode cX10_comes 59 = .ok (.aload_n 0, 1) := by decide +kernel
theorem dX10_comes_60 : decode cX10_comes 60 = .ok (.getfield 31, 3) := by decide +kernel
theorem dX10_comes_63 : decode cX10_comes 63 = .ok (.sipush 670, 3) := by decide +kernel
theorem dX10_comes_66 : decode cX10_comes 66 = .ok (.iaload, 1) := by decide +kernel
theorem dX10_comes_67 : decode cX10_comes 67 = .ok (.iastore, 1) := by decide +kernel
theorem dX10_comes_68 : decode cX10_comes 68 = .ok (.return_, 1) := by decide +kernel
theorem dX10_dawns_0 : decode cX10_dawns 0 = .ok (.aload_n 0, 1) := by decide +kernel
theorem dX10_dawns_1 : decode cX10_dawns 1 = .ok (.iconst 0, 1) := by decide +kernel
theorem dX10_dawns_2 : decode cX10_dawns 2 = .ok (.putfield 468, 3) := by decide +kernel
theorem dX10_dawns_5 : decode cX10_dawns 5 = .ok (.aload_n 0, 1) := by decide +kernel
theorem dX10_dawns_6 : decode cX10_dawns 6 = .ok (.iconst 0, 1) := by decide +kernel
theorem dX10_dawns_7 : decode cX10_dawns 7 = .ok (.putfield 471, 3) := by decide +kernel
theorem dX10_dawns_10 : decode cX10_dawns 10 = .ok (.iconst 0, 1) := by decide +kernel
theorem dX10_dawns_11 : decode cX10_dawns 11 = .ok (.istore_n 1, 1) := by decide +kernel
theorem dX10_dawns_12 : decode cX10_dawns 12 = .ok (.iload_n 1, 1) := by decide +kernel
theorem dX10_dawns_13 : decode cX10_dawns 13 = .ok (.sipush 671, 3) := by decide +kernel
theorem dX10_dawns_16 : decode cX10_dawns 16 = .ok (.if_icmp .ge 16, 3) := by decide +kernel
theorem dX10_dawns_19 : decode cX10_dawns 19 = .ok (.aload_n 0, 1) := by decide +kernel
theorem dX10_dawns_20 : decode cX10_dawns 20 = .ok (.getfield 31, 3) := by decide +kernel
theorem dX10_dawns_23 : decode cX10_dawns 23 = .ok (.iload_n 1, 1) := by decide +kernel
theorem dX10_dawns_24 : decode cX10_dawns 24 = .ok (.iconst 0, 1) := by decide +kernel
theorem dX10_dawns_25 : decode cX10_dawns 25 = .ok (.iastore, 1) := by decide +kernel
theorem dX10_dawns_26 : decode cX10_dawns 26 = .ok (.iinc 1 1, 3) := by decide +kernel
theorem dX10_dawns_29 : decode cX10_dawns 29 = .ok (.goto (-17), 3) := by decide +kernel
theorem dX10_dawns_32 : decode cX10_dawns 32 = .ok (.iconst 0, 1) := by decide +kernel
theorem dX10_dawns_33 : decode cX10_dawns 33 = .ok (.istore_n 1, 1) := by decide +kernel
theorem dX10_dawns_34 : decode cX10_dawns 34 = .ok (.iload_n 1, 1) := by decide +kernel
theorem dX10_dawns_35 : decode cX10_dawns 35 = .ok (.aload_n 0, 1) := by decide +kernel
theorem dX10_dawns_36 : decode cX10_dawns 36 = .ok (.getfield 336, 3) := by decide +kernel
theorem dX10_dawns_39 : decode cX10_dawns 39 = .ok (.getfield 296, 3) := by decide +kernel
theorem dX10_dawns_42 : decode cX10_dawns 42 = .ok (.if_icmp .ge 192, 3) := by decide +kernel
theorem dX10_dawns_45 : decode cX10_dawns 45 = .ok (.aload_n 0, 1) := by decide +kernel
theorem dX10_dawns_46 : decode cX10_dawns 46 = .ok (.iload_n 1, 1) := by decide +kernel
theorem dX10_dawns_47 : decode cX10_dawns 47 = .ok (.invokevirtual 459, 3) := by decide +kernel
theorem dX10_dawns_50 : decode cX10_dawns 50 = .ok (.ifCond .ne 6, 3) := by decide +kernel
theorem dX10_dawns_53 : decode cX10_dawns 53 = .ok (.goto 175, 3) := by decide +kernel
theorem dX10_dawns_56 : decode cX10_dawns 56 = .ok (.aload_n 0, 1) := by decide +kernel
theorem dX10_dawns_57 : decode cX10_dawns 57 = .ok (.getfield 46, 3) := by decide +kernel
theorem dX10_dawns_60 : decode cX10_dawns 60 = .ok (.iload_n 1, 1) := by decide +kernel
theorem dX10_dawns_61 : decode cX10_dawns 61 = .ok (.aload_n 0, 1) := by decide +kernel
theorem dX10_dawns_62 : decode cX10_dawns 62 = .ok (.getfield 446, 3) := by decide +kernel
theorem dX10_dawns_65 : decode cX10_dawns 65 = .ok (.iastore, 1) := by decide +kernel
theorem dX10_dawns_66 : decode cX10_dawns 66 = .ok (.iconst 0, 1) := by decide +kernel
theorem dX10_dawns_67 : decode cX10_dawns 67 = .ok (.istore_n 2, 1) := by decide +kernel
theorem dX10_dawns_68 : decode cX10_dawns 68 = .ok (.iload_n 2, 1) := by decide +kernel
theorem dX10_dawns_69 : decode cX10_dawns 69 = .ok (.aload_n 0, 1) := by decide +kernel
theorem dX10_dawns_70 : decode cX10_dawns 70 = .ok (.getfield 446, 3) := by decide +kernel
theorem dX10_dawns_73 : decode cX10_dawns 73 = .ok (.if_icmp .ge 26, 3) := by decide +kernel
theorem dX10_dawns_76 : decode cX10_dawns 76 = .ok (.aload_n 0, 1) := by decide +kernel
theorem dX10_dawns_77 : decode cX10_dawns 77 = .ok (.getfield 43, 3) := by decide +kernel
theorem dX10_dawns_80 : decode cX10_dawns 80 = .ok (.bipush 6, 2) := by decide +kernel
theorem dX10_dawns_82 : decode cX10_dawns 82 = .ok (.iload_n 1, 1) := by decide +kernel
theorem dX10_dawns_83 : decode cX10_dawns 83 = .ok (.imul, 1) := by decide +kernel
theorem dX10_dawns_84 : decode cX10_dawns 84 = .ok (.iload_n 2, 1) := by decide +kernel
theorem dX10_dawns_85 : decode cX10_dawns 85 = .ok (.iadd, 1) := by decide +kernel
theorem dX10_dawns_86 : decode cX10_dawns 86 = .ok (.aload_n 0, 1) := by decide +kernel
theorem dX10_dawns_87 : decode cX10_dawns 87 = .ok (.getfield 28, 3) := by decide +kernel
theorem dX10_dawns_90 : decode cX10_dawns 90 = .ok (.iload_n 2, 1) := by decide +kernel
theorem dX10_dawns_91 : decode cX10_dawns 91 = .ok (.iaload, 1) := by decide +kernel
theorem dX10_dawns_92 : decode cX10_dawns 92 = .ok (.iastore, 1) := by decide +kernel
theorem dX10_dawns_93 : decode cX10_dawns 93 = .ok (.iinc 2 1, 3) := by decide +kernel
theorem dX10_dawns_96 : decode cX10_dawns 96 = .ok (.goto (-28), 3) := by decide +kernel
theorem dX10_dawns_99 : decode cX10_dawns 99 = .ok (.aload_n 0, 1) := by decide +kernel
theorem dX10_dawns_100 : decode cX10_dawns 100 = .ok (.aload_n 0, 1) := by decide +kernel
theorem dX10_dawns_101 : decode cX10_dawns 101 = .ok (.getfield 336, 3) := by decide +kernel
theorem dX10_dawns_104 : decode cX10_dawns 104 = .ok (.getfield 313, 3) := by decide +kernel
theorem dX10_dawns_107 : decode cX10_dawns 107 = .ok (.iload_n 1, 1) := by decide +kernel
theorem dX10_dawns_108 : decode cX10_dawns 108 = .ok (.iaload, 1) := by decide +kernel
theorem dX10_dawns_109 : decode cX10_dawns 109 = .ok (.aload_n 0, 1) := by decide +kernel
theorem dX10_dawns_110 : decode cX10_dawns 110 = .ok (.getfield 442, 3) := by decide +kernel
theorem dX10_dawns_113 : decode cX10_dawns 113 = .ok (.invokevirtual 396, 3) := by decide +kernel
theorem dX10_dawns_116 : decode cX10_dawns 116 = .ok (.iconst 0, 1) := by decide +kernel
theorem dX10_dawns_117 : decode cX10_dawns 117 = .ok (.istore_n 2, 1) := by decide +kernel
theorem dX10_dawns_118 : decode cX10_dawns 118 = .ok (.iload_n 2, 1) := by decide +kernel
theorem dX10_dawns_119 : decode cX10_dawns 119 = .ok (.aload_n 0, 1) := by decide +kernel
theorem dX10_dawns_120 : decode cX10_dawns 120 = .ok (.getfield 351, 3) := by decide +kernel
theorem dX10_dawns_123 : decode cX10_dawns 123 = .ok (.if_icmp .ge 105, 3) := by decide +kernel
theorem dX10_dawns_126 : decode cX10_dawns 126 = .ok (.aload_n 0, 1) := by decide +kernel
theorem dX10_dawns_127 : decode cX10_dawns 127 = .ok (.getfield 37, 3) := by decide +kernel
theorem dX10_dawns_130 : decode cX10_dawns 130 = .ok (.aload_n 0, 1) := by decide +kernel
theorem dX10_dawns_131 : decode cX10_dawns 131 = .ok (.getfield 471, 3) := by decide +kernel
theorem dX10_dawns_134 : decode cX10_dawns 134 = .ok (.iload_n 1, 1) := by decide +kernel
theorem dX10_dawns_135 : decode cX10_dawns 135 = .ok (.iastore, 1) := by decide +kernel
theorem dX10_dawns_136 : decode cX10_dawns 136 = .ok (.aload_n 0, 1) := by decide +kernel
theorem dX10_dawns_137 : decode cX10_dawns 137 = .ok (.getfield 40, 3) := by decide +kernel
theorem dX10_dawns_140 : decode cX10_dawns 140 = .ok (.aload_n 0, 1) := by decide +kernel
theorem dX10_dawns_141 : decode cX10_dawns 141 = .ok (.getfield 471, 3) := by decide +kernel
theorem dX10_dawns_144 : decode cX10_dawns 144 = .ok (.aload_n 0, 1) := by decide +kernel
theorem dX10_dawns_145 : decode cX10_dawns 145 = .ok (.getfield 359, 3) := by decide +kernel
theorem dX10_dawns_148 : decode cX10_dawns 148 = .ok (.iastore, 1) := by decide +kernel
theorem dX10_dawns_149 : decode cX10_dawns 149 = .ok (.bipush 9, 2) := by decide +kernel
theorem dX10_dawns_151 : decode cX10_dawns 151 = .ok (.aload_n 0, 1) := by decide +kernel
theorem dX10_dawns_152 : decode cX10_dawns 152 = .ok (.getfield 471, 3) := by decide +kernel
theorem dX10_dawns_155 : decode cX10_dawns 155 = .ok (.imul, 1) := by decide +kernel
theorem dX10_dawns_156 : decode cX10_dawns 156 = .ok (.istore_n 3, 1) := by decide +kernel
theorem dX10_dawns_157 : decode cX10_dawns 157 = .ok (.aload_n 0, 1) := by decide +kernel
theorem dX10_dawns_158 : decode cX10_dawns 158 = .ok (.getfield 31, 3) := by decide +kernel
theorem dX10_dawns_161 : decode cX10_dawns 161 = .ok (.iload_n 3, 1) := by decide +kernel
theorem dX10_dawns_162 : decode cX10_dawns 162 = .ok (.iconst 0, 1) := by decide +kernel
theorem dX10_dawns_163 : decode cX10_dawns 163 = .ok (.iadd, 1) := by decide +kernel
theorem dX10_dawns_164 : decode cX10_dawns 164 = .ok (.aload_n 0, 1) := by decide +kernel
theorem dX10_dawns_165 : decode cX10_dawns 165 = .ok (.getfield 336, 3) := by decide +kernel
theorem dX10_dawns_168 : decode cX10_dawns 168 = .ok (.getfield 315, 3) := by decide +kernel
theorem dX10_dawns_171 : decode cX10_dawns 171 = .ok (.iload_n 1, 1) := by decide +kernel
theorem dX10_dawns_172 : decode cX10_dawns 172 = .ok (.iaload, 1) := by decide +kernel
theorem dX10_dawns_173 : decode cX10_dawns 173 = .ok (.iastore, 1) := by decide +kernel
theorem dX10_dawns_174 : decode cX10_dawns 174 = .ok (.aload_n 0, 1) := by decide +kernel
theorem dX10_dawns_175 : decode cX10_dawns 175 = .ok (.getfield 31, 3) := by decide +kernel
theorem dX10_dawns_178 : decode cX10_dawns 178 = .ok (.iload_n 3, 1) := by decide +kernel
theorem dX10_dawns_179 : decode cX10_dawns 179 = .ok (.iconst 1, 1) := by decide +kernel
theorem dX10_dawns_180 : decode cX10_dawns 180 = .ok (.iadd, 1) := by decide +kernel
theorem dX10_dawns_181 : decode cX10_dawns 181 = .ok (.aload_n 0, 1) := by decide +kernel
theorem dX10_dawns_182 : decode cX10_dawns 182 = .ok (.getfield 336, 3) := by decide +kernel
theorem dX10_dawns_185 : decode cX10_dawns 185 = .ok (.getfield 318, 3) := by decide +kernel
theorem dX10_dawns_188 : decode cX10_dawns 188 = .ok (.iload_n 1, 1) := by decide +kernel
theorem dX10_dawns_189 : decode cX10_dawns 189 = .ok (.iaload, 1) := by decide +kernel
theorem dX10_dawns_190 : decode cX10_dawns 190 = .ok (.iastore, 1) := by decide +kernel
theorem dX10_dawns_191 : decode cX10_dawns 191 = .ok (.aload_n 0, 1) := by decide +kernel
theorem dX10_dawns_192 : decode cX10_dawns 192 = .ok (.getfield 31, 3) := by decide +kernel
theorem dX10_dawns_195 : decode cX10_dawns 195 = .ok (.iload_n 3, 1) := by decide +kernel
theorem dX10_dawns_196 : decode cX10_dawns 196 = .ok (.iconst 5, 1) := by decide +kernel
theorem dX10_dawns_197 : decode cX10_dawns 197 = .ok (.iadd, 1) := by decide +kernel
theorem dX10_dawns_198 : decode cX10_dawns 198 = .ok (.bipush (-2), 2) := by decide +kernel
theorem dX10_dawns_200 : decode cX10_dawns 200 = .ok (.iastore, 1) := by decide +kernel
theorem dX10_dawns_201 : decode cX10_dawns 201 = .ok (.aload_n 0, 1) := by decide +kernel
theorem dX10_dawns_202 : decode cX10_dawns 202 = .ok (.getfield 31, 3) := by decide +kernel
theorem dX10_dawns_205 : decode cX10_dawns 205 = .ok (.iload_n 3, 1) := by decide +kernel
theorem dX10_dawns_206 : decode cX10_dawns 206 = .ok (.bipush 6, 2) := by decide +kernel
theorem dX10_dawns_208 : decode cX10_dawns 208 = .ok (.iadd, 1) := by decide +kernel
theorem dX10_dawns_209 : decode cX10_dawns 209 = .ok (.bipush (-2), 2) := by decide +kernel
theorem dX10_dawns_211 : decode cX10_dawns 211 = .ok (.iastore, 1) := by decide +kernel
theorem dX10_dawns_212 : decode cX10_dawns 212 = .ok (.aload_n 0, 1) := by decide +kernel
theorem dX10_dawns_213 : decode cX10_dawns 213 = .ok (.dup, 1) := by decide +kernel
theorem dX10_dawns_214 : decode cX10_dawns 214 = .ok (.getfield 471, 3) := by decide +kernel
theorem dX10_dawns_217 : decode cX10_dawns 217 = .ok (.iconst 1, 1) := by decide +kernel
theorem dX10_dawns_218 : decode cX10_dawns 218 = .ok (.iadd, 1) := by decide +kernel
theorem dX10_dawns_219 : decode cX10_dawns 219 = .ok (.putfield 471, 3) := by decide +kernel
theorem dX10_dawns_222 : decode cX10_dawns 222 = .ok (.iinc 2 1, 3) := by decide +kernel
theorem dX10_dawns_225 : decode cX10_dawns 225 = .ok (.goto (-107), 3) := by decide +kernel
theorem dX10_dawns_228 : decode cX10_dawns 228 = .ok (.iinc 1 1, 3) := by decide +kernel
theorem dX10_dawns_231 : decode cX10_dawns 231 = .ok (.goto (-197), 3) := by decide +kernel
theorem dX10_dawns_234 : decode cX10_dawns 234 = .ok (.return_, 1) := by decide +kernel
theorem dX10_deepest_0 : decode cX10_deepest 0 = .ok (.aload_n 0, 1) := by decide +kernel
theorem dX10_deepest_1 : decode cX10_deepest 1 = .ok (.iconst 0, 1) := by decide +kernel
theorem dX10_deepest_2 : decode cX10_deepest 2 = .ok (.putfield 61, 3) := by decide +kernel
theorem dX10_deepest_5 : decode cX10_deepest 5 = .ok (.aload_n 0, 1) := by decide +kernel
theorem dX10_deepest_6 : decode cX10_deepest 6 = .ok (.iload_n 1, 1) := by decide +kernel
theorem dX10_deepest_7 : decode cX10_deepest 7 = .ok (.invokevirtual 390, 3) := by decide +kernel
theorem dX10_deepest_10 : decode cX10_deepest 10 = .ok (.ifCond .ne 9, 3) := by decide +kernel
theorem dX10_deepest_13 : decode cX10_deepest 13 = .ok (.aload_n 0, 1) := by decide +kernel
theorem dX10_deepest_14 : decode cX10_deepest 14 = .ok (.iconst 1, 1) := by decide +kernel
theorem dX10_deepest_15 : decode cX10_deepest 15 = .ok (.invokevirtual 67, 3) := by decide +kernel
theorem dX10_deepest_18 : decode cX10_deepest 18 = .ok (.ireturn, 1) := by decide +kernel
theorem dX10_deepest_19 : decode cX10_deepest 19 = .ok (.aload_n 0, 1) := by decide +kernel
theorem dX10_deepest_20 : decode cX10_deepest 20 = .ok (.iload_n 1, 1) := by decide +kernel
theorem dX10_deepest_21 : decode cX10_deepest 21 = .ok (.iconst 0, 1) := by decide +kernel
theorem dX10_deepest_22 : decode cX10_deepest 22 = .ok (.invokevirtual 396, 3) := by decide +kernel
theorem dX10_deepest_25 : decode cX10_deepest 25 = .ok (.aload_n 0, 1) := by decide +kernel
theorem dX10_deepest_26 : decode cX10_deepest 26 = .ok (.aload_n 0, 1) := by decide +kernel
theorem dX10_deepest_27 : decode cX10_deepest 27 = .ok (.invokevirtual 409, 3) := by decide +kernel
theorem dX10_deepest_30 : decode cX10_deepest 30 = .ok (.invokevirtual 71, 3) := by decide +kernel
theorem dX10_deepest_33 : decode cX10_deepest 33 = .ok (.ireturn, 1) := by decide +kernel
theorem dX10_deepestCut_0 : decode cX10_deepestCut 0 = .ok (.aload_n 0, 1) := by decide +kernel
theorem dX10_deepestCut_1 : decode cX10_deepestCut 1 = .ok (.iconst 0, 1) := by decide +kernel
theorem dX10_deepestCut_2 : decode cX10_deepestCut 2 = .ok (.putfield 61, 3) := by decide +kernel
theorem dX10_deepestCut_5 : decode cX10_deepestCut 5 = .ok (.aload_n 0, 1) := by decide +kernel
theorem dX10_deepestCut_6 : decode cX10_deepestCut 6 = .ok (.iload_n 1, 1) := by decide +kernel
theorem dX10_deepestCut_7 : decode cX10_deepestCut 7 = .ok (.invokevirtual 390, 3) := by decide +kernel
theorem dX10_deepestCut_10 : decode cX10_deepestCut 10 = .ok (.ifCond .ne 9, 3) := by decide +kernel
theorem dX10_deepestCut_13 : decode cX10_deepestCut 13 = .ok (.aload_n 0, 1) := by decide +kernel
theorem dX10_deepestCut_14 : decode cX10_deepestCut 14 = .ok (.iconst 1, 1) := by decide +kernel
theorem dX10_deepestCut_15 : decode cX10_deepestCut 15 = .ok (.invokevirtual 67, 3) := by decide +kernel
theorem dX10_deepestCut_18 : decode cX10_deepestCut 18 = .ok (.ireturn, 1) := by decide +kernel
theorem dX10_deepestCut_19 : decode cX10_deepestCut 19 = .ok (.aload_n 0, 1) := by decide +kernel
theorem dX10_deepestCut_20 : decode cX10_deepestCut 20 = .ok (.iload_n 1, 1) := by decide +kernel
theorem dX10_deepestCut_21 : decode cX10_deepestCut 21 = .ok (.invokevirtual 400, 3) := by decide +kernel
theorem dX10_deepestCut_24 : decode cX10_deepestCut 24 = .ok (.ifCond .ne 9, 3) := by decide +kernel
theorem dX10_deepestCut_27 : decode cX10_deepestCut 27 = .ok (.aload_n 0, 1) := by decide +kernel
theorem dX10_deepestCut_28 : decode cX10_deepestCut 28 = .ok (.iconst 5, 1) := by decide +kernel
theorem dX10_deepestCut_29 : decode cX10_deepestCut 29 = .ok (.invokevirtual 67, 3) := by decide +kernel
theorem dX10_deepestCut_32 : decode cX10_deepestCut 32 = .ok (.ireturn, 1) := by decide +kernel
theorem dX10_deepestCut_33 : decode cX10_deepestCut 33 = .ok (.aload_n 0, 1) := by decide +kernel
theorem dX10_deepestCut_34 : decode cX10_deepestCut 34 = .ok (.iload_n 1, 1) := by decide +kernel
theorem dX10_deepestCut_35 : decode cX10_deepestCut 35 = .ok (.iconst 1, 1) := by decide +kernel
theorem dX10_deepestCut_36 : decode cX10_deepestCut 36 = .ok (.invokevirtual 396, 3) := by decide +kernel
theorem dX10_deepestCut_39 : decode cX10_deepestCut 39 = .ok (.aload_n 0, 1) := by decide +kernel
theorem dX10_deepestCut_40 : decode cX10_deepestCut 40 = .ok (.aload_n 0, 1) := by decide +kernel
theorem dX10_deepestCut_41 : decode cX10_deepestCut 41 = .ok (.invokevirtual 409, 3) := by decide +kernel
theorem dX10_deepestCut_44 : decode cX10_deepestCut 44 = .ok (.invokevirtual 71, 3) := by decide +kernel
theorem dX10_deepestCut_47 : decode cX10_deepestCut 47 = .ok (.ireturn, 1) := by decide +kernel
theorem dX10_deepestNow_0 : decode cX10_deepestNow 0 = .ok (.aload_n 0, 1) := by decide +kernel
theorem dX10_deepestNow_1 : decode cX10_deepestNow 1 = .ok (.iconst 0, 1) := by decide +kernel
theorem dX10_deepestNow_2 : decode cX10_deepestNow 2 = .ok (.invokevirtual 403, 3) := by decide +kernel
theorem dX10_deepestNow_5 : decode cX10_deepestNow 5 = .ok (.ifCond .ne 6, 3) := by decide +kernel
theorem dX10_deepestNow_8 : decode cX10_deepestNow 8 = .ok (.bipush (-2), 2) := by decide +kernel
theorem dX10_deepestNow_10 : decode cX10_deepestNow 10 = .ok (.ireturn, 1) := by decide +kernel
theorem dX10_deepestNow_11 : decode cX10_deepestNow 11 = .ok (.iconst 0, 1) := by decide +kernel
theorem dX10_deepestNow_12 : decode cX10_deepestNow 12 = .ok (.istore_n 1, 1) := by decide +kernel
theorem dX10_deepestNow_13 : decode cX10_deepestNow 13 = .ok (.iconst 1, 1) := by decide +kernel
theorem dX10_deepestNow_14 : decode cX10_deepestNow 14 = .ok (.istore_n 2, 1) := by decide +kernel
theorem dX10_deepestNow_15 : decode cX10_deepestNow 15 = .ok (.iload_n 2, 1) := by decide +kernel
theorem dX10_deepestNow_16 : decode cX10_deepestNow 16 = .ok (.ifCond .eq 74, 3) := by decide +kernel
theorem dX10_deepestNow_19 : decode cX10_deepestNow 19 = .ok (.iconst 0, 1) := by decide +kernel
theorem dX10_deepestNow_20 : decode cX10_deepestNow 20 = .ok (.istore_n 2, 1) := by decide +kernel
theorem dX10_deepestNow_21 : decode cX10_deepestNow 21 = .ok (.iconst 0, 1) := by decide +kernel
theorem dX10_deepestNow_22 : decode cX10_deepestNow 22 = .ok (.istore_n 3, 1) := by decide +kernel
theorem dX10_deepestNow_23 : decode cX10_deepestNow 23 = .ok (.iload_n 3, 1) := by decide +kernel
theorem dX10_deepestNow_24 : decode cX10_deepestNow 24 = .ok (.aload_n 0, 1) := by decide +kernel
theorem dX10_deepestNow_25 : decode cX10_deepestNow 25 = .ok (.getfield 339, 3) := by decide +kernel
theorem dX10_deepestNow_28 : decode cX10_deepestNow 28 = .ok (.if_icmp .ge 47, 3) := by decide +kernel
theorem dX10_deepestNow_31 : decode cX10_deepestNow 31 = .ok (.iload_n 2, 1) := by decide +kernel
theorem dX10_deepestNow_32 : decode cX10_deepestNow 32 = .ok (.ifCond .ne 31, 3) := by decide +kernel
theorem dX10_deepestNow_35 : decode cX10_deepestNow 35 = .ok (.aload_n 0, 1) := by decide +kernel
theorem dX10_deepestNow_36 : decode cX10_deepestNow 36 = .ok (.iload_n 3, 1) := by decide +kernel
theorem dX10_deepestNow_37 : decode cX10_deepestNow 37 = .ok (.iconst 0, 1) := by decide +kernel
theorem dX10_deepestNow_38 : decode cX10_deepestNow 38 = .ok (.invokevirtual 349, 3) := by decide +kernel
theorem dX10_deepestNow_41 : decode cX10_deepestNow 41 = .ok (.iload_n 1, 1) := by decide +kernel
theorem dX10_deepestNow_42 : decode cX10_deepestNow 42 = .ok (.if_icmp .ne 25, 3) := by decide +kernel
theorem dX10_deepestNow_45 : decode cX10_deepestNow 45 = .ok (.aload_n 0, 1) := by decide +kernel
theorem dX10_deepestNow_46 : decode cX10_deepestNow 46 = .ok (.iload_n 3, 1) := by decide +kernel
theorem dX10_deepestNow_47 : decode cX10_deepestNow 47 = .ok (.invokevirtual 406, 3) := by decide +kernel
theorem dX10_deepestNow_50 : decode cX10_deepestNow 50 = .ok (.ifCond .eq 17, 3) := by decide +kernel
theorem dX10_deepestNow_53 : decode cX10_deepestNow 53 = .ok (.aload_n 0, 1) := by decide +kernel
theorem dX10_deepestNow_54 : decode cX10_deepestNow 54 = .ok (.iload_n 1, 1) := by decide +kernel
theorem dX10_deepestNow_55 : decode cX10_deepestNow 55 = .ok (.iconst 1, 1) := by decide +kernel
theorem dX10_deepestNow_56 : decode cX10_deepestNow 56 = .ok (.iadd, 1) := by decide +kernel
theorem dX10_deepestNow_57 : decode cX10_deepestNow 57 = .ok (.invokevirtual 403, 3) := by decide +kernel
theorem dX10_deepestNow_60 : decode cX10_deepestNow 60 = .ok (.ifCond .eq 7, 3) := by decide +kernel
theorem dX10_deepestNow_63 : decode cX10_deepestNow 63 = .ok (.iconst 1, 1) := by decide +kernel
theorem dX10_deepestNow_64 : decode cX10_deepestNow 64 = .ok (.goto 4, 3) := by decide +kernel
theorem dX10_deepestNow_67 : decode cX10_deepestNow 67 = .ok (.iconst 0, 1) := by decide +kernel
theorem dX10_deepestNow_68 : decode cX10_deepestNow 68 = .ok (.istore_n 2, 1) := by decide +kernel
theorem dX10_deepestNow_69 : decode cX10_deepestNow 69 = .ok (.iinc 3 1, 3) := by decide +kernel
theorem dX10_deepestNow_72 : decode cX10_deepestNow 72 = .ok (.goto (-49), 3) := by decide +kernel
theorem dX10_deepestNow_75 : decode cX10_deepestNow 75 = .ok (.iload_n 1, 1) := by decide +kernel
theorem dX10_deepestNow_76 : decode cX10_deepestNow 76 = .ok (.iload_n 2, 1) := by decide +kernel
theorem dX10_deepestNow_77 : decode cX10_deepestNow 77 = .ok (.ifCond .eq 7, 3) := by decide +kernel
theorem dX10_deepestNow_80 : decode cX10_deepestNow 80 = .ok (.iconst 1, 1) := by decide +kernel
theorem dX10_deepestNow_81 : decode cX10_deepestNow 81 = .ok (.goto 4, 3) := by decide +kernel
theorem dX10_deepestNow_84 : decode cX10_deepestNow 84 = .ok (.iconst 0, 1) := by decide +kernel
theorem dX10_deepestNow_85 : decode cX10_deepestNow 85 = .ok (.iadd, 1) := by decide +kernel
theorem dX10_deepestNow_86 : decode cX10_deepestNow 86 = .ok (.istore_n 1, 1) := by decide +kernel
theorem dX10_deepestNow_87 : decode cX10_deepestNow 87 = .ok (.goto (-72), 3) := by decide +kernel
theorem dX10_deepestNow_90 : decode cX10_deepestNow 90 = .ok (.iload_n 1, 1) := by decide +kernel
theorem dX10_deepestNow_91 : decode cX10_deepestNow 91 = .ok (.ireturn, 1) := by decide +kernel
theorem dX10_denied_0 : decode cX10_denied 0 = .ok (.aload_n 0, 1) := by decide +kernel
theorem dX10_denied_1 : decode cX10_denied 1 = .ok (.iload_n 1, 1) := by decide +kernel
theorem dX10_denied_2 : decode cX10_denied 2 = .ok (.invokevirtual 67, 3) := by decide +kernel
theorem dX10_denied_5 : decode cX10_denied 5 = .ok (.pop, 1) := by decide +kernel
theorem dX10_denied_6 : decode cX10_denied 6 = .ok (.iconst 0, 1) := by decide +kernel
theorem dX10_denied_7 : decode cX10_denied 7 = .ok (.ireturn, 1) := by decide +kernel
theorem dX10_dig_0 : decode cX10_dig 0 = .ok (.aload_n 0, 1) := by decide +kernel
theorem dX10_dig_1 : decode cX10_dig 1 = .ok (.iconst 0, 1) := by decide +kernel
theorem dX10_dig_2 : decode cX10_dig 2 = .ok (.putfield 61, 3) := by decide +kernel
theorem dX10_dig_5 : decode cX10_dig 5 = .ok (.aload_n 0, 1) := by decide +kernel
theorem dX10_dig_6 : decode cX10_dig 6 = .ok (.getfield 336, 3) := by decide +kernel
theorem dX10_dig_9 : decode cX10_dig 9 = .ok (.ifnull 30, 3) := by decide +kernel
theorem dX10_dig_12 : decode cX10_dig 12 = .ok (.iload_n 1, 1) := by decide +kernel
theorem dX10_dig_13 : decode cX10_dig 13 = .ok (.iconst 0, 1) := by decide +kernel
theorem dX10_dig_14 : decode cX10_dig 14 = .ok (.aload_n 0, 1) := by decide +kernel
theorem dX10_dig_15 : decode cX10_dig 15 = .ok (.getfield 336, 3) := by decide +kernel
theorem dX10_dig_18 : decode cX10_dig 18 = .ok (.getfield 174, 3) := by decide +kernel
theorem dX10_dig_21 : decode cX10_dig 21 = .ok (.iconst 2, 1) := by decide +kernel
theorem dX10_dig_22 : decode cX10_dig 22 = .ok (.isub, 1) := by decide +kernel
theorem dX10_dig_23 : decode cX10_dig 23 = .ok (.invokestatic 139, 3) := by decide +kernel
theorem dX10_dig_26 : decode cX10_dig 26 = .ok (.ifCond .eq 13, 3) := by decide +kernel
theorem dX10_dig_29 : decode cX10_dig 29 = .ok (.iload_n 2, 1) := by decide +kernel
theorem dX10_dig_30 : decode cX10_dig 30 = .ok (.iconst 0, 1) := by decide +kernel
theorem dX10_dig_31 : decode cX10_dig 31 = .ok (.bipush 11, 2) := by decide +kernel
theorem dX10_dig_33 : decode cX10_dig 33 = .ok (.invokestatic 139, 3) := by decide +kernel
theorem dX10_dig_36 : decode cX10_dig 36 = .ok (.ifCond .ne 9, 3) := by decide +kernel
theorem dX10_dig_39 : decode cX10_dig 39 = .ok (.aload_n 0, 1) := by decide +kernel
theorem dX10_dig_40 : decode cX10_dig 40 = .ok (.iconst 1, 1) := by decide +kernel
theorem dX10_dig_41 : decode cX10_dig 41 = .ok (.invokevirtual 67, 3) := by decide +kernel
theorem dX10_dig_44 : decode cX10_dig 44 = .ok (.ireturn, 1) := by decide +kernel
theorem dX10_dig_45 : decode cX10_dig 45 = .ok (.iload_n 3, 1) := by decide +kernel
theorem dX10_dig_46 : decode cX10_dig 46 = .ok (.invokestatic 510, 3) := by decide +kernel
theorem dX10_dig_49 : decode cX10_dig 49 = .ok (.ifCond .eq 33, 3) := by decide +kernel
theorem dX10_dig_52 : decode cX10_dig 52 = .ok (.iload 4, 2) := by decide +kernel
theorem dX10_dig_54 : decode cX10_dig 54 = .ok (.invokestatic 510, 3) := by decide +kernel
theorem dX10_dig_57 : decode cX10_dig 57 = .ok (.ifCond .eq 25, 3) := by decide +kernel
theorem dX10_dig_60 : decode cX10_dig 60 = .ok (.iload 5, 2) := by decide +kernel
theorem dX10_dig_62 : decode cX10_dig 62 = .ok (.iconst 1, 1) := by decide +kernel
theorem dX10_dig_63 : decode cX10_dig 63 = .ok (.bipush 9, 2) := by decide +kernel
theorem dX10_dig_65 : decode cX10_dig 65 = .ok (.invokestatic 139, 3) := by decide +kernel
theorem dX10_dig_68 : decode cX10_dig 68 = .ok (.ifCond .eq 14, 3) := by decide +kernel
theorem dX10_dig_71 : decode cX10_dig 71 = .ok (.iload 6, 2) := by decide +kernel
theorem dX10_dig_73 : decode cX10_dig 73 = .ok (.iconst 0, 1) := by decide +kernel
theorem dX10_dig_74 : decode cX10_dig 74 = .ok (.bipush 99, 2) := by decide +kernel
theorem dX10_dig_76 : decode cX10_dig 76 = .ok (.invokestatic 139, 3) := by decide +kernel
theorem dX10_dig_79 : decode cX10_dig 79 = .ok (.ifCond .ne 9, 3) := by decide +kernel
theorem dX10_dig_82 : decode cX10_dig 82 = .ok (.aload_n 0, 1) := by decide +kernel
theorem dX10_dig_83 : decode cX10_dig 83 = .ok (.iconst 2, 1) := by decide +kernel
theorem dX10_dig_84 : decode cX10_dig 84 = .ok (.invokevirtual 67, 3) := by decide +kernel
theorem dX10_dig_87 : decode cX10_dig 87 = .ok (.ireturn, 1) := by decide +kernel
theorem dX10_dig_88 : decode cX10_dig 88 = .ok (.aload_n 0, 1) := by decide +kernel
theorem dX10_dig_89 : decode cX10_dig 89 = .ok (.getfield 339, 3) := by decide +kernel
theorem dX10_dig_92 : decode cX10_dig 92 = .ok (.bipush 11, 2) := by decide +kernel
theorem dX10_dig_94 : decode cX10_dig 94 = .ok (.if_icmp .ne 9, 3) := by decide +kernel
theorem dX10_dig_97 : decode cX10_dig 97 = .ok (.aload_n 0, 1) := by decide +kernel
theorem dX10_dig_98 : decode cX10_dig 98 = .ok (.iconst 3, 1) := by decide +kernel
theorem dX10_dig_99 : decode cX10_dig 99 = .ok (.invokevirtual 67, 3) := by decide +kernel
theorem dX10_dig_102 : decode cX10_dig 102 = .ok (.ireturn, 1) := by decide +kernel
theorem dX10_dig_103 : decode cX10_dig 103 = .ok (.aload_n 0, 1) := by decide +kernel
theorem dX10_dig_104 : decode cX10_dig 104 = .ok (.invokevirtual 532, 3) := by decide +kernel
theorem dX10_dig_107 : decode cX10_dig 107 = .ok (.aload_n 0, 1) := by decide +kernel
theorem dX10_dig_108 : decode cX10_dig 108 = .ok (.getfield 17, 3) := by decide +kernel
theorem dX10_dig_111 : decode cX10_dig 111 = .ok (.aload_n 0, 1) := by decide +kernel
theorem dX10_dig_112 : decode cX10_dig 112 = .ok (.getfield 339, 3) := by decide +kernel
theorem dX10_dig_115 : decode cX10_dig 115 = .ok (.iload_n 1, 1) := by decide +kernel
theorem dX10_dig_116 : decode cX10_dig 116 = .ok (.iload_n 2, 1) := by decide +kernel
theorem dX10_dig_117 : decode cX10_dig 117 = .ok (.iload_n 3, 1) := by decide +kernel
theorem dX10_dig_118 : decode cX10_dig 118 = .ok (.iload 4, 2) := by decide +kernel
theorem dX10_dig_120 : decode cX10_dig 120 = .ok (.iload 5, 2) := by decide +kernel
theorem dX10_dig_122 : decode cX10_dig 122 = .ok (.iload 6, 2) := by decide +kernel
theorem dX10_dig_124 : decode cX10_dig 124 = .ok (.invokestatic 245, 3) := by decide +kernel
theorem dX10_dig_127 : decode cX10_dig 127 = .ok (.aload_n 0, 1) := by decide +kernel
theorem dX10_dig_128 : decode cX10_dig 128 = .ok (.dup, 1) := by decide +kernel
theorem dX10_dig_129 : decode cX10_dig 129 = .ok (.getfield 339, 3) := by decide +kernel
theorem dX10_dig_132 : decode cX10_dig 132 = .ok (.iconst 1, 1) := by decide +kernel
theorem dX10_dig_133 : decode cX10_dig 133 = .ok (.iadd, 1) := by decide +kernel
theorem dX10_dig_134 : decode cX10_dig 134 = .ok (.putfield 339, 3) := by decide +kernel
theorem dX10_dig_137 : decode cX10_dig 137 = .ok (.aload_n 0, 1) := by decide +kernel
theorem dX10_dig_138 : decode cX10_dig 138 = .ok (.invokevirtual 343, 3) := by decide +kernel
theorem dX10_dig_141 : decode cX10_dig 141 = .ok (.aload_n 0, 1) := by decide +kernel
theorem dX10_dig_142 : decode cX10_dig 142 = .ok (.aload_n 0, 1) := by decide +kernel
theorem dX10_dig_143 : decode cX10_dig 143 = .ok (.getfield 339, 3) := by decide +kernel
theorem dX10_dig_146 : decode cX10_dig 146 = .ok (.iconst 1, 1) := by decide +kernel
theorem dX10_dig_147 : decode cX10_dig 147 = .ok (.isub, 1) := by decide +kernel
theorem dX10_dig_148 : decode cX10_dig 148 = .ok (.invokevirtual 71, 3) := by decide +kernel
theorem dX10_dig_151 : decode cX10_dig 151 = .ok (.ireturn, 1) := by decide +kernel
theorem dX10_drives_0 : decode cX10_drives 0 = .ok (.bipush 9, 2) := by decide +kernel
theorem dX10_drives_2 : decode cX10_drives 2 = .ok (.iload_n 1, 1) := by decide +kernel
theorem dX10_drives_3 : decode cX10_drives 3 = .ok (.imul, 1) := by decide +kernel
theorem dX10_drives_4 : decode cX10_drives 4 = .ok (.istore_n 2, 1) := by decide +kernel
theorem dX10_drives_5 : decode cX10_drives 5 = .ok (.aload_n 0, 1) := by decide +kernel
theorem dX10_drives_6 : decode cX10_drives 6 = .ok (.getfield 31, 3) := by decide +kernel
theorem dX10_drives_9 : decode cX10_drives 9 = .ok (.iload_n 2, 1) := by decide +kernel
theorem dX10_drives_10 : decode cX10_drives 10 = .ok (.iconst 2, 1) := by decide +kernel
theorem dX10_drives_11 : decode cX10_drives 11 = .ok (.iadd, 1) := by decide +kernel
theorem dX10_drives_12 : decode cX10_drives 12 = .ok (.iaload, 1) := by decide +kernel
theorem dX10_drives_13 : decode cX10_drives 13 = .ok (.iconst 1, 1) := by decide +kernel
theorem dX10_drives_14 : decode cX10_drives 14 = .ok (.if_icmp .eq 4, 3) := by decide +kernel
theorem dX10_drives_17 : decode cX10_drives 17 = .ok (.return_, 1) := by decide +kernel
theorem dX10_drives_18 : decode cX10_drives 18 = .ok (.aload_n 0, 1) := by decide +kernel
theorem dX10_drives_19 : decode cX10_drives 19 = .ok (.getfield 31, 3) := by decide +kernel
theorem dX10_drives_22 : decode cX10_drives 22 = .ok (.iload_n 2, 1) := by decide +kernel
theorem dX10_drives_23 : decode cX10_drives 23 = .ok (.iconst 1, 1) := by decide +kernel
theorem dX10_drives_24 : decode cX10_drives 24 = .ok (.iadd, 1) := by decide +kernel
theorem dX10_drives_25 : decode cX10_drives 25 = .ok (.iaload, 1) := by decide +kernel
theorem dX10_drives_26 : decode cX10_drives 26 = .ok (.aload_n 0, 1) := by decide +kernel
theorem dX10_drives_27 : decode cX10_drives 27 = .ok (.iload_n 1, 1) := by decide +kernel
theorem dX10_drives_28 : decode cX10_drives 28 = .ok (.invokevirtual 480, 3) := by decide +kernel
theorem dX10_drives_31 : decode cX10_drives 31 = .ok (.if_icmp .ne 9, 3) := by decide +kernel
theorem dX10_drives_34 : decode cX10_drives 34 = .ok (.aload_n 0, 1) := by decide +kernel
theorem dX10_drives_35 : decode cX10_drives 35 = .ok (.iload_n 1, 1) := by decide +kernel
theorem dX10_drives_36 : decode cX10_drives 36 = .ok (.invokevirtual 483, 3) := by decide +kernel
theorem dX10_drives_39 : decode cX10_drives 39 = .ok (.return_, 1) := by decide +kernel
theorem dX10_drives_40 : decode cX10_drives 40 = .ok (.iconst 0, 1) := by decide +kernel
theorem dX10_drives_41 : decode cX10_drives 41 = .ok (.istore_n 3, 1) := by decide +kernel
theorem dX10_drives_42 : decode cX10_drives 42 = .ok (.iload_n 3, 1) := by decide +kernel
theorem dX10_drives_43 : decode cX10_drives 43 = .ok (.aload_n 0, 1) := by decide +kernel
theorem dX10_drives_44 : decode cX10_drives 44 = .ok (.getfield 336, 3) := by decide +kernel
theorem dX10_drives_47 : decode cX10_drives 47 = .ok (.getfield 249, 3) := by decide +kernel
theorem dX10_drives_50 : decode cX10_drives 50 = .ok (.if_icmp .ge 103, 3) := by decide +kernel
theorem dX10_drives_53 : decode cX10_drives 53 = .ok (.aload_n 0, 1) := by decide +kernel
theorem dX10_drives_54 : decode cX10_drives 54 = .ok (.getfield 336, 3) := by decide +kernel
theorem dX10_drives_57 : decode cX10_drives 57 = .ok (.getfield 254, 3) := by decide +kernel
theorem dX10_drives_60 : decode cX10_drives 60 = .ok (.iload_n 3, 1) := by decide +kernel
theorem dX10_drives_61 : decode cX10_drives 61 = .ok (.iaload, 1) := by decide +kernel
theorem dX10_drives_62 : decode cX10_drives 62 = .ok (.aload_n 0, 1) := by decide +kernel
theorem dX10_drives_63 : decode cX10_drives 63 = .ok (.getfield 31, 3) := by decide +kernel
theorem dX10_drives_66 : decode cX10_drives 66 = .ok (.iload_n 2, 1) := by decide +kernel
theorem dX10_drives_67 : decode cX10_drives 67 = .ok (.iconst 0, 1) := by decide +kernel
theorem dX10_drives_68 : decode cX10_drives 68 = .ok (.iadd, 1) := by decide +kernel
theorem dX10_drives_69 : decode cX10_drives 69 = .ok (.iaload, 1) := by decide +kernel
theorem dX10_drives_70 : decode cX10_drives 70 = .ok (.if_icmp .ne 77, 3) := by decide +kernel
theorem dX10_drives_73 : decode cX10_drives 73 = .ok (.aload_n 0, 1) := by decide +kernel
theorem dX10_drives_74 : decode cX10_drives 74 = .ok (.getfield 336, 3) := by decide +kernel
theorem dX10_drives_77 : decode cX10_drives 77 = .ok (.getfield 257, 3) := by decide +kernel
theorem dX10_drives_80 : decode cX10_drives 80 = .ok (.iload_n 3, 1) := by decide +kernel
theorem dX10_drives_81 : decode cX10_drives 81 = .ok (.iaload, 1) := by decide +kernel
theorem dX10_drives_82 : decode cX10_drives 82 = .ok (.aload_n 0, 1) := by decide +kernel
theorem dX10_drives_83 : decode cX10_drives 83 = .ok (.getfield 40, 3) := by decide +kernel
theorem dX10_drives_86 : decode cX10_drives 86 = .ok (.iload_n 1, 1) := by decide +kernel
theorem dX10_drives_87 : decode cX10_drives 87 = .ok (.iaload, 1) := by decide +kernel
theorem dX10_drives_88 : decode cX10_drives 88 = .ok (.if_icmp .lt 59, 3) := by decide +kernel
theorem dX10_drives_91 : decode cX10_drives 91 = .ok (.aload_n 0, 1) := by decide +kernel
theorem dX10_drives_92 : decode cX10_drives 92 = .ok (.iload_n 3, 1) := by decide +kernel
theorem dX10_drives_93 : decode cX10_drives 93 = .ok (.invokevirtual 489, 3) := by decide +kernel
theorem dX10_drives_96 : decode cX10_drives 96 = .ok (.bipush (-2), 2) := by decide +kernel
theorem dX10_drives_98 : decode cX10_drives 98 = .ok (.if_icmp .eq 6, 3) := by decide +kernel
theorem dX10_drives_101 : decode cX10_drives 101 = .ok (.goto 46, 3) := by decide +kernel
theorem dX10_drives_104 : decode cX10_drives 104 = .ok (.aload_n 0, 1) := by decide +kernel
theorem dX10_drives_105 : decode cX10_drives 105 = .ok (.getfield 31, 3) := by decide +kernel
theorem dX10_drives_108 : decode cX10_drives 108 = .ok (.iload_n 2, 1) := by decide +kernel
theorem dX10_drives_109 : decode cX10_drives 109 = .ok (.iconst 5, 1) := by decide +kernel
theorem dX10_drives_110 : decode cX10_drives 110 = .ok (.iadd, 1) := by decide +kernel
theorem dX10_drives_111 : decode cX10_drives 111 = .ok (.iload_n 3, 1) := by decide +kernel
theorem dX10_drives_112 : decode cX10_drives 112 = .ok (.iastore, 1) := by decide +kernel
theorem dX10_drives_113 : decode cX10_drives 113 = .ok (.aload_n 0, 1) := by decide +kernel
theorem dX10_drives_114 : decode cX10_drives 114 = .ok (.getfield 31, 3) := by decide +kernel
theorem dX10_drives_117 : decode cX10_drives 117 = .ok (.iload_n 2, 1) := by decide +kernel
theorem dX10_drives_118 : decode cX10_drives 118 = .ok (.iconst 2, 1) := by decide +kernel
theorem dX10_drives_119 : decode cX10_drives 119 = .ok (.iadd, 1) := by decide +kernel
theorem dX10_drives_120 : decode cX10_drives 120 = .ok (.iconst 2, 1) := by decide +kernel
theorem dX10_drives_121 : decode cX10_drives 121 = .ok (.iastore, 1) := by decide +kernel
theorem dX10_drives_122 : decode cX10_drives 122 = .ok (.aload_n 0, 1) := by decide +kernel
theorem dX10_drives_123 : decode cX10_drives 123 = .ok (.getfield 31, 3) := by decide +kernel
theorem dX10_drives_126 : decode cX10_drives 126 = .ok (.iload_n 2, 1) := by decide +kernel
theorem dX10_drives_127 : decode cX10_drives 127 = .ok (.iconst 3, 1) := by decide +kernel
theorem dX10_drives_128 : decode cX10_drives 128 = .ok (.iadd, 1) := by decide +kernel
theorem dX10_drives_129 : decode cX10_drives 129 = .ok (.aload_n 0, 1) := by decide +kernel
theorem dX10_drives_130 : decode cX10_drives 130 = .ok (.getfield 31, 3) := by decide +kernel
theorem dX10_drives_133 : decode cX10_drives 133 = .ok (.iload_n 2, 1) := by decide +kernel
theorem dX10_drives_134 : decode cX10_drives 134 = .ok (.iconst 1, 1) := by decide +kernel
theorem dX10_drives_135 : decode cX10_drives 135 = .ok (.iadd, 1) := by decide +kernel
theorem dX10_drives_136 : decode cX10_drives 136 = .ok (.iaload, 1) := by decide +kernel
theorem dX10_drives_137 : decode cX10_drives 137 = .ok (.aload_n 0, 1) := by decide +kernel
theorem dX10_drives_138 : decode cX10_drives 138 = .ok (.iload_n 1, 1) := by decide +kernel
theorem dX10_drives_139 : decode cX10_drives 139 = .ok (.invokevirtual 480, 3) := by decide +kernel
theorem dX10_drives_142 : decode cX10_drives 142 = .ok (.invokestatic 429, 3) := by decide +kernel
theorem dX10_drives_145 : decode cX10_drives 145 = .ok (.iastore, 1) := by decide +kernel
theorem dX10_drives_146 : decode cX10_drives 146 = .ok (.return_, 1) := by decide +kernel
theorem dX10_drives_147 : decode cX10_drives 147 = .ok (.iinc 3 1, 3) := by decide +kernel
theorem dX10_drives_150 : decode cX10_drives 150 = .ok (.goto (-108), 3) := by decide +kernel
theorem dX10_drives_153 : decode cX10_drives 153 = .ok (.return_, 1) := by decide +kernel
theorem dX10_eatsSign_0 : decode cX10_eatsSign 0 = .ok (.aload_n 0, 1) := by decide +kernel
theorem dX10_eatsSign_1 : decode cX10_eatsSign 1 = .ok (.getfield 89, 3) := by decide +kernel
theorem dX10_eatsSign_4 : decode cX10_eatsSign 4 = .ok (.iconst 4, 1) := by decide +kernel
theorem dX10_eatsSign_5 : decode cX10_eatsSign 5 = .ok (.if_icmp .ne 15, 3) := by decide +kernel
theorem dX10_eatsSign_8 : decode cX10_eatsSign 8 = .ok (.aload_n 0, 1) := by decide +kernel
theorem dX10_eatsSign_9 : decode cX10_eatsSign 9 = .ok (.getfield 101, 3) := by decide +kernel
theorem dX10_eatsSign_12 : decode cX10_eatsSign 12 = .ok (.iload_n 1, 1) := by decide +kernel
theorem dX10_eatsSign_13 : decode cX10_eatsSign 13 = .ok (.if_icmp .ne 7, 3) := by decide +kernel
theorem dX10_eatsSign_16 : decode cX10_eatsSign 16 = .ok (.iconst 1, 1) := by decide +kernel
theorem dX10_eatsSign_17 : decode cX10_eatsSign 17 = .ok (.goto 4, 3) := by decide +kernel
theorem dX10_eatsSign_20 : decode cX10_eatsSign 20 = .ok (.iconst 0, 1) := by decide +kernel
theorem dX10_eatsSign_21 : decode cX10_eatsSign 21 = .ok (.istore_n 2, 1) := by decide +kernel
theorem dX10_eatsSign_22 : decode cX10_eatsSign 22 = .ok (.iload_n 2, 1) := by decide +kernel
theorem dX10_eatsSign_23 : decode cX10_eatsSign 23 = .ok (.ifCond .eq 7, 3) := by decide +kernel
theorem dX10_eatsSign_26 : decode cX10_eatsSign 26 = .ok (.aload_n 0, 1) := by decide +kernel
theorem dX10_eatsSign_27 : decode cX10_eatsSign 27 = .ok (.invokevirtual 132, 3) := by decide +kernel
theorem dX10_eatsSign_30 : decode cX10_eatsSign 30 = .ok (.iload_n 2, 1) := by decide +kernel
theorem dX10_eatsSign_31 : decode cX10_eatsSign 31 = .ok (.ireturn, 1) := by decide +kernel
theorem dX10_eatsWord_0 : decode cX10_eatsWord 0 = .ok (.aload_n 0, 1) := by decide +kernel
theorem dX10_eatsWord_1 : decode cX10_eatsWord 1 = .ok (.aload_n 1, 1) := by decide +kernel
theorem dX10_eatsWord_2 : decode cX10_eatsWord 2 = .ok (.invokevirtual 128, 3) := by decide +kernel
theorem dX10_eatsWord_5 : decode cX10_eatsWord 5 = .ok (.istore_n 2, 1) := by decide +kernel
theorem dX10_eatsWord_6 : decode cX10_eatsWord 6 = .ok (.iload_n 2, 1) := by decide +kernel
theorem dX10_eatsWord_7 : decode cX10_eatsWord 7 = .ok (.ifCond .eq 7, 3) := by decide +kernel
theorem dX10_eatsWord_10 : decode cX10_eatsWord 10 = .ok (.aload_n 0, 1) := by decide +kernel
theorem dX10_eatsWord_11 : decode cX10_eatsWord 11 = .ok (.invokevirtual 132, 3) := by decide +kernel
theorem dX10_eatsWord_14 : decode cX10_eatsWord 14 = .ok (.iload_n 2, 1) := by decide +kernel
theorem dX10_eatsWord_15 : decode cX10_eatsWord 15 = .ok (.ireturn, 1) := by decide +kernel
theorem dX10_fault_0 : decode cX10_fault 0 = .ok (.aload_n 0, 1) := by decide +kernel
theorem dX10_fault_1 : decode cX10_fault 1 = .ok (.iconst 0, 1) := by decide +kernel
theorem dX10_fault_2 : decode cX10_fault 2 = .ok (.putfield 61, 3) := by decide +kernel
theorem dX10_fault_5 : decode cX10_fault 5 = .ok (.aload_n 0, 1) := by decide +kernel
theorem dX10_fault_6 : decode cX10_fault 6 = .ok (.getfield 118, 3) := by decide +kernel
theorem dX10_fault_9 : decode cX10_fault 9 = .ok (.ireturn, 1) := by decide +kernel
theorem dX10_feed_0 : decode cX10_feed 0 = .ok (.aload_n 0, 1) := by decide +kernel
theorem dX10_feed_1 : decode cX10_feed 1 = .ok (.iconst 0, 1) := by decide +kernel
theorem dX10_feed_2 : decode cX10_feed 2 = .ok (.putfield 61, 3) := by decide +kernel
theorem dX10_feed_5 : decode cX10_feed 5 = .ok (.aload_n 0, 1) := by decide +kernel
theorem dX10_feed_6 : decode cX10_feed 6 = .ok (.getfield 329, 3) := by decide +kernel
theorem dX10_feed_9 : decode cX10_feed 9 = .ok (.bipush 20, 2) := by decide +kernel
theorem dX10_feed_11 : decode cX10_feed 11 = .ok (.iadd, 1) := by decide +kernel
theorem dX10_feed_12 : decode cX10_feed 12 = .ok (.sipush 900, 3) := by decide +kernel
theorem dX10_feed_15 : decode cX10_feed 15 = .ok (.if_icmp .le 5, 3) := by decide +kernel
theorem dX10_feed_18 : decode cX10_feed 18 = .ok (.iconst (-1), 1) := by decide +kernel
theorem dX10_feed_19 : decode cX10_feed 19 = .ok (.ireturn, 1) := by decide +kernel
theorem dX10_feed_20 : decode cX10_feed 20 = .ok (.iconst 0, 1) := by decide +kernel
theorem dX10_feed_21 : decode cX10_feed 21 = .ok (.istore 6, 2) := by decide +kernel
theorem dX10_feed_23 : decode cX10_feed 23 = .ok (.iload 6, 2) := by decide +kernel
theorem dX10_feed_25 : decode cX10_feed 25 = .ok (.bipush 20, 2) := by decide +kernel
theorem dX10_feed_27 : decode cX10_feed 27 = .ok (.if_icmp .ge 90, 3) := by decide +kernel
theorem dX10_feed_30 : decode cX10_feed 30 = .ok (.iload 6, 2) := by decide +kernel
theorem dX10_feed_32 : decode cX10_feed 32 = .ok (.iconst 4, 1) := by decide +kernel
theorem dX10_feed_33 : decode cX10_feed 33 = .ok (.if_icmp .ge 7, 3) := by decide +kernel
theorem dX10_feed_36 : decode cX10_feed 36 = .ok (.iload_n 1, 1) := by decide +kernel
theorem dX10_feed_37 : decode cX10_feed 37 = .ok (.goto 39, 3) := by decide +kernel
theorem dX10_feed_40 : decode cX10_feed 40 = .ok (.iload 6, 2) := by decide +kernel
theorem dX10_feed_42 : decode cX10_feed 42 = .ok (.bipush 8, 2) := by decide +kernel
theorem dX10_feed_44 : decode cX10_feed 44 = .ok (.if_icmp .ge 7, 3) := by decide +kernel
theorem dX10_feed_47 : decode cX10_feed 47 = .ok (.iload_n 2, 1) := by decide +kernel
theorem dX10_feed_48 : decode cX10_feed 48 = .ok (.goto 28, 3) := by decide +kernel
theorem dX10_feed_51 : decode cX10_feed 51 = .ok (.iload 6, 2) := by decide +kernel
theorem dX10_feed_53 : decode cX10_feed 53 = .ok (.bipush 12, 2) := by decide +kernel
theorem dX10_feed_55 : decode cX10_feed 55 = .ok (.if_icmp .ge 7, 3) := by decide +kernel
theorem dX10_feed_58 : decode cX10_feed 58 = .ok (.iload_n 3, 1) := by decide +kernel
theorem dX10_feed_59 : decode cX10_feed 59 = .ok (.goto 17, 3) := by decide +kernel
theorem dX10_feed_62 : decode cX10_feed 62 = .ok (.iload 6, 2) := by decide +kernel
theorem dX10_feed_64 : decode cX10_feed 64 = .ok (.bipush 16, 2) := by decide +kernel
theorem dX10_feed_66 : decode cX10_feed 66 = .ok (.if_icmp .ge 8, 3) := by decide +kernel
theorem dX10_feed_69 : decode cX10_feed 69 = .ok (.iload 4, 2) := by decide +kernel
theorem dX10_feed_71 : decode cX10_feed 71 = .ok (.goto 5, 3) := by decide +kernel
theorem dX10_feed_74 : decode cX10_feed 74 = .ok (.iload 5, 2) := by decide +kernel
theorem dX10_feed_76 : decode cX10_feed 76 = .ok (.istore 7, 2) := by decide +kernel
theorem dX10_feed_78 : decode cX10_feed 78 = .ok (.aload_n 0, 1) := by decide +kernel
theorem dX10_feed_79 : decode cX10_feed 79 = .ok (.getfield 13, 3) := by decide +kernel
theorem dX10_feed_82 : decode cX10_feed 82 = .ok (.aload_n 0, 1) := by decide +kernel
theorem dX10_feed_83 : decode cX10_feed 83 = .ok (.getfield 329, 3) := by decide +kernel
theorem dX10_feed_86 : decode cX10_feed 86 = .ok (.iload 7, 2) := by decide +kernel
theorem dX10_feed_88 : decode cX10_feed 88 = .ok (.bipush 24, 2) := by decide +kernel
theorem dX10_feed_90 : decode cX10_feed 90 = .ok (.bipush 8, 2) := by decide +kernel
theorem dX10_feed_92 : decode cX10_feed 92 = .ok (.iload 6, 2) := by decide +kernel
theorem dX10_feed_94 : decode cX10_feed 94 = .ok (.iconst 4, 1) := by decide +kernel
theorem dX10_feed_95 : decode cX10_feed 95 = .ok (.irem, 1) := by decide +kernel
theorem dX10_feed_96 : decode cX10_feed 96 = .ok (.imul, 1) := by decide +kernel
theorem dX10_feed_97 : decode cX10_feed 97 = .ok (.isub, 1) := by decide +kernel
theorem dX10_feed_98 : decode cX10_feed 98 = .ok (.ishr, 1) := by decide +kernel
theorem dX10_feed_99 : decode cX10_feed 99 = .ok (.i2b, 1) := by decide +kernel
theorem dX10_feed_100 : decode cX10_feed 100 = .ok (.bastore, 1) := by decide +kernel
theorem dX10_feed_101 : decode cX10_feed 101 = .ok (.aload_n 0, 1) := by decide +kernel
theorem dX10_feed_102 : decode cX10_feed 102 = .ok (.dup, 1) := by decide +kernel
theorem dX10_feed_103 : decode cX10_feed 103 = .ok (.getfield 329, 3) := by decide +kernel
theorem dX10_feed_106 : decode cX10_feed 106 = .ok (.iconst 1, 1) := by decide +kernel
theorem dX10_feed_107 : decode cX10_feed 107 = .ok (.iadd, 1) := by decide +kernel
theorem dX10_feed_108 : decode cX10_feed 108 = .ok (.putfield 329, 3) := by decide +kernel
theorem dX10_feed_111 : decode cX10_feed 111 = .ok (.iinc 6 1, 3) := by decide +kernel
theorem dX10_feed_114 : decode cX10_feed 114 = .ok (.goto (-91), 3) := by decide +kernel
theorem dX10_feed_117 : decode cX10_feed 117 = .ok (.aload_n 0, 1) := by decide +kernel
theorem dX10_feed_118 : decode cX10_feed 118 = .ok (.getfield 329, 3) := by decide +kernel
theorem dX10_feed_121 : decode cX10_feed 121 = .ok (.ireturn, 1) := by decide +kernel
theorem dX10_finds_0 : decode cX10_finds 0 = .ok (.aload_n 0, 1) := by decide +kernel
theorem dX10_finds_1 : decode cX10_finds 1 = .ok (.bipush (-2), 2) := by decide +kernel
theorem dX10_finds_3 : decode cX10_finds 3 = .ok (.putfield 432, 3) := by decide +kernel
theorem dX10_finds_6 : decode cX10_finds 6 = .ok (.iconst 0, 1) := by decide +kernel
theorem dX10_finds_7 : decode cX10_finds 7 = .ok (.istore 6, 2) := by decide +kernel
theorem dX10_finds_9 : decode cX10_finds 9 = .ok (.iload 6, 2) := by decide +kernel
theorem dX10_finds_11 : decode cX10_finds 11 = .ok (.iconst 2, 1) := by decide +kernel
theorem dX10_finds_12 : decode cX10_finds 12 = .ok (.if_icmp .ge 195, 3) := by decide +kernel
theorem dX10_finds_15 : decode cX10_finds 15 = .ok (.iload 6, 2) := by decide +kernel
theorem dX10_finds_17 : decode cX10_finds 17 = .ok (.iconst 1, 1) := by decide +kernel
theorem dX10_finds_18 : decode cX10_finds 18 = .ok (.if_icmp .ne 14, 3) := by decide +kernel
theorem dX10_finds_21 : decode cX10_finds 21 = .ok (.aload_n 0, 1) := by decide +kernel
theorem dX10_finds_22 : decode cX10_finds 22 = .ok (.iload_n 1, 1) := by decide +kernel
theorem dX10_finds_23 : decode cX10_finds 23 = .ok (.invokevirtual 400, 3) := by decide +kernel
theorem dX10_finds_26 : decode cX10_finds 26 = .ok (.ifCond .ne 6, 3) := by decide +kernel
theorem dX10_finds_29 : decode cX10_finds 29 = .ok (.goto 172, 3) := by decide +kernel
theorem dX10_finds_32 : decode cX10_finds 32 = .ok (.aload_n 0, 1) := by decide +kernel
theorem dX10_finds_33 : decode cX10_finds 33 = .ok (.iload_n 1, 1) := by decide +kernel
theorem dX10_finds_34 : decode cX10_finds 34 = .ok (.iload 6, 2) := by decide +kernel
theorem dX10_finds_36 : decode cX10_finds 36 = .ok (.iconst 1, 1) := by decide +kernel
theorem dX10_finds_37 : decode cX10_finds 37 = .ok (.if_icmp .ne 7, 3) := by decide +kernel
theorem dX10_finds_40 : decode cX10_finds 40 = .ok (.iconst 1, 1) := by decide +kernel
theorem dX10_finds_41 : decode cX10_finds 41 = .ok (.goto 4, 3) := by decide +kernel
theorem dX10_finds_44 : decode cX10_finds 44 = .ok (.iconst 0, 1) := by decide +kernel
theorem dX10_finds_45 : decode cX10_finds 45 = .ok (.invokevirtual 396, 3) := by decide +kernel
theorem dX10_finds_48 : decode cX10_finds 48 = .ok (.aload_n 0, 1) := by decide +kernel
theorem dX10_finds_49 : decode cX10_finds 49 = .ok (.iload_n 2, 1) := by decide +kernel
theorem dX10_finds_50 : decode cX10_finds 50 = .ok (.iload_n 3, 1) := by decide +kernel
theorem dX10_finds_51 : decode cX10_finds 51 = .ok (.iload 4, 2) := by decide +kernel
theorem dX10_finds_53 : decode cX10_finds 53 = .ok (.iload 5, 2) := by decide +kernel
theorem dX10_finds_55 : decode cX10_finds 55 = .ok (.invokevirtual 435, 3) := by decide +kernel
theorem dX10_finds_58 : decode cX10_finds 58 = .ok (.lstore 7, 2) := by decide +kernel
theorem dX10_finds_60 : decode cX10_finds 60 = .ok (.lload 7, 2) := by decide +kernel
theorem dX10_finds_62 : decode cX10_finds 62 = .ok (.ldc2_w 420, 3) := by decide +kernel
theorem dX10_finds_65 : decode cX10_finds 65 = .ok (.lcmp, 1) := by decide +kernel
theorem dX10_finds_66 : decode cX10_finds 66 = .ok (.ifCond .lt 6, 3) := by decide +kernel
theorem dX10_finds_69 : decode cX10_finds 69 = .ok (.goto 132, 3) := by decide +kernel
theorem dX10_finds_72 : decode cX10_finds 72 = .ok (.lload 7, 2) := by decide +kernel
theorem dX10_finds_74 : decode cX10_finds 74 = .ok (.ldc2_w 415, 3) := by decide +kernel
theorem dX10_finds_77 : decode cX10_finds 77 = .ok (.ldiv, 1) := by decide +kernel
theorem dX10_finds_78 : decode cX10_finds 78 = .ok (.l2i, 1) := by decide +kernel
theorem dX10_finds_79 : decode cX10_finds 79 = .ok (.aload_n 0, 1) := by decide +kernel
theorem dX10_finds_80 : decode cX10_finds 80 = .ok (.getfield 351, 3) := by decide +kernel
theorem dX10_finds_83 : decode cX10_finds 83 = .ok (.imul, 1) := by decide +kernel
theorem dX10_finds_84 : decode cX10_finds 84 = .ok (.istore 9, 2) := by decide +kernel
theorem dX10_finds_86 : decode cX10_finds 86 = .ok (.lload 7, 2) := by decide +kernel
theorem dX10_finds_88 : decode cX10_finds 88 = .ok (.ldc2_w 415, 3) := by decide +kernel
theorem dX10_finds_91 : decode cX10_finds 91 = .ok (.lrem, 1) := by decide +kernel
theorem dX10_finds_92 : decode cX10_finds 92 = .ok (.l2i, 1) := by decide +kernel
theorem dX10_finds_93 : decode cX10_finds 93 = .ok (.istore 10, 2) := by decide +kernel
theorem dX10_finds_95 : decode cX10_finds 95 = .ok (.aload_n 0, 1) := by decide +kernel
theorem dX10_finds_96 : decode cX10_finds 96 = .ok (.getfield 432, 3) := by decide +kernel
theorem dX10_finds_99 : decode cX10_finds 99 = .ok (.bipush (-2), 2) := by decide +kernel
theorem dX10_finds_101 : decode cX10_finds 101 = .ok (.if_icmp .eq 33, 3) := by decide +kernel
theorem dX10_finds_104 : decode cX10_finds 104 = .ok (.iload 9, 2) := by decide +kernel
theorem dX10_finds_106 : decode cX10_finds 106 = .ok (.aload_n 0, 1) := by decide +kernel
theorem dX10_finds_107 : decode cX10_finds 107 = .ok (.getfield 432, 3) := by decide +kernel
theorem dX10_finds_110 : decode cX10_finds 110 = .ok (.if_icmp .gt 91, 3) := by decide +kernel
theorem dX10_finds_113 : decode cX10_finds 113 = .ok (.iload 9, 2) := by decide +kernel
theorem dX10_finds_115 : decode cX10_finds 115 = .ok (.aload_n 0, 1) := by decide +kernel
theorem dX10_finds_116 : decode cX10_finds 116 = .ok (.getfield 432, 3) := by decide +kernel
theorem dX10_finds_119 : decode cX10_finds 119 = .ok (.if_icmp .ne 15, 3) := by decide +kernel
theorem dX10_finds_122 : decode cX10_finds 122 = .ok (.iload 10, 2) := by decide +kernel
theorem dX10_finds_124 : decode cX10_finds 124 = .ok (.aload_n 0, 1) := by decide +kernel
theorem dX10_finds_125 : decode cX10_finds 125 = .ok (.getfield 439, 3) := by decide +kernel
theorem dX10_finds_128 : decode cX10_finds 128 = .ok (.if_icmp .lt 6, 3) := by decide +kernel
theorem dX10_finds_131 : decode cX10_finds 131 = .ok (.goto 70, 3) := by decide +kernel
theorem dX10_finds_134 : decode cX10_finds 134 = .ok (.aload_n 0, 1) := by decide +kernel
theorem dX10_finds_135 : decode cX10_finds 135 = .ok (.iload 9, 2) := by decide +kernel
theorem dX10_finds_137 : decode cX10_finds 137 = .ok (.putfield 432, 3) := by decide +kernel
theorem dX10_finds_140 : decode cX10_finds 140 = .ok (.aload_n 0, 1) := by decide +kernel
theorem dX10_finds_141 : decode cX10_finds 141 = .ok (.iload 10, 2) := by decide +kernel
theorem dX10_finds_143 : decode cX10_finds 143 = .ok (.putfield 439, 3) := by decide +kernel
theorem dX10_finds_146 : decode cX10_finds 146 = .ok (.aload_n 0, 1) := by decide +kernel
theorem dX10_finds_147 : decode cX10_finds 147 = .ok (.iload 6, 2) := by decide +kernel
theorem dX10_finds_149 : decode cX10_finds 149 = .ok (.iconst 1, 1) := by decide +kernel
theorem dX10_finds_150 : decode cX10_finds 150 = .ok (.if_icmp .ne 7, 3) := by decide +kernel
theorem dX10_finds_153 : decode cX10_finds 153 = .ok (.iconst 1, 1) := by decide +kernel
theorem dX10_finds_154 : decode cX10_finds 154 = .ok (.goto 4, 3) := by decide +kernel
theorem dX10_finds_157 : decode cX10_finds 157 = .ok (.iconst 0, 1) := by decide +kernel
theorem dX10_finds_158 : decode cX10_finds 158 = .ok (.putfield 442, 3) := by decide +kernel
theorem dX10_finds_161 : decode cX10_finds 161 = .ok (.aload_n 0, 1) := by decide +kernel
theorem dX10_finds_162 : decode cX10_finds 162 = .ok (.aload_n 0, 1) := by decide +kernel
theorem dX10_finds_163 : decode cX10_finds 163 = .ok (.getfield 417, 3) := by decide +kernel
theorem dX10_finds_166 : decode cX10_finds 166 = .ok (.putfield 446, 3) := by decide +kernel
theorem dX10_finds_169 : decode cX10_finds 169 = .ok (.iconst 0, 1) := by decide +kernel
theorem dX10_finds_170 : decode cX10_finds 170 = .ok (.istore 11, 2) := by decide +kernel
theorem dX10_finds_172 : decode cX10_finds 172 = .ok (.iload 11, 2) := by decide +kernel
theorem dX10_finds_174 : decode cX10_finds 174 = .ok (.aload_n 0, 1) := by decide +kernel
theorem dX10_finds_175 : decode cX10_finds 175 = .ok (.getfield 417, 3) := by decide +kernel
theorem dX10_finds_178 : decode cX10_finds 178 = .ok (.if_icmp .ge 23, 3) := by decide +kernel
theorem dX10_finds_181 : decode cX10_finds 181 = .ok (.aload_n 0, 1) := by decide +kernel
theorem dX10_finds_182 : decode cX10_finds 182 = .ok (.getfield 28, 3) := by decide +kernel
theorem dX10_finds_185 : decode cX10_finds 185 = .ok (.iload 11, 2) := by decide +kernel
theorem dX10_finds_187 : decode cX10_finds 187 = .ok (.aload_n 0, 1) := by decide +kernel
theorem dX10_finds_188 : decode cX10_finds 188 = .ok (.getfield 25, 3) := by decide +kernel
theorem dX10_finds_191 : decode cX10_finds 191 = .ok (.iload 11, 2) := by decide +kernel
theorem dX10_finds_193 : decode cX10_finds 193 = .ok (.iaload, 1) := by decide +kernel
theorem dX10_finds_194 : decode cX10_finds 194 = .ok (.iastore, 1) := by decide +kernel
theorem dX10_finds_195 : decode cX10_finds 195 = .ok (.iinc 11 1, 3) := by decide +kernel
theorem dX10_finds_198 : decode cX10_finds 198 = .ok (.goto (-26), 3) := by decide +kernel
theorem dX10_finds_201 : decode cX10_finds 201 = .ok (.iinc 6 1, 3) := by decide +kernel
theorem dX10_finds_204 : decode cX10_finds 204 = .ok (.goto (-195), 3) := by decide +kernel
theorem dX10_finds_207 : decode cX10_finds 207 = .ok (.aload_n 0, 1) := by decide +kernel
theorem dX10_finds_208 : decode cX10_finds 208 = .ok (.getfield 432, 3) := by decide +kernel
theorem dX10_finds_211 : decode cX10_finds 211 = .ok (.bipush (-2), 2) := by decide +kernel
theorem dX10_finds_213 : decode cX10_finds 213 = .ok (.if_icmp .eq 7, 3) := by decide +kernel
theorem dX10_finds_216 : decode cX10_finds 216 = .ok (.iconst 1, 1) := by decide +kernel
theorem dX10_finds_217 : decode cX10_finds 217 = .ok (.goto 4, 3) := by decide +kernel
theorem dX10_finds_220 : decode cX10_finds 220 = .ok (.iconst 0, 1) := by decide +kernel
theorem dX10_finds_221 : decode cX10_finds 221 = .ok (.ireturn, 1) := by decide +kernel
theorem dX10_findsOrder_0 : decode cX10_findsOrder 0 = .ok (.aload_n 0, 1) := by decide +kernel
theorem dX10_findsOrder_1 : decode cX10_findsOrder 1 = .ok (.aload_n 0, 1) := by decide +kernel
theorem dX10_findsOrder_2 : decode cX10_findsOrder 2 = .ok (.getfield 336, 3) := by decide +kernel
theorem dX10_findsOrder_5 : decode cX10_findsOrder 5 = .ok (.getfield 313, 3) := by decide +kernel
theorem dX10_findsOrder_8 : decode cX10_findsOrder 8 = .ok (.iload_n 1, 1) := by decide +kernel
theorem dX10_findsOrder_9 : decode cX10_findsOrder 9 = .ok (.iaload, 1) := by decide +kernel
theorem dX10_findsOrder_10 : decode cX10_findsOrder 10 = .ok (.aload_n 0, 1) := by decide +kernel
theorem dX10_findsOrder_11 : decode cX10_findsOrder 11 = .ok (.getfield 336, 3) := by decide +kernel
theorem dX10_findsOrder_14 : decode cX10_findsOrder 14 = .ok (.getfield 315, 3) := by decide +kernel
theorem dX10_findsOrder_17 : decode cX10_findsOrder 17 = .ok (.iload_n 1, 1) := by decide +kernel
theorem dX10_findsOrder_18 : decode cX10_findsOrder 18 = .ok (.iaload, 1) := by decide +kernel
theorem dX10_findsOrder_19 : decode cX10_findsOrder 19 = .ok (.aload_n 0, 1) := by decide +kernel
theorem dX10_findsOrder_20 : decode cX10_findsOrder 20 = .ok (.getfield 336, 3) := by decide +kernel
theorem dX10_findsOrder_23 : decode cX10_findsOrder 23 = .ok (.getfield 318, 3) := by decide +kernel
theorem dX10_findsOrder_26 : decode cX10_findsOrder 26 = .ok (.iload_n 1, 1) := by decide +kernel
theorem dX10_findsOrder_27 : decode cX10_findsOrder 27 = .ok (.iaload, 1) := by decide +kernel
theorem dX10_findsOrder_28 : decode cX10_findsOrder 28 = .ok (.aload_n 0, 1) := by decide +kernel
theorem dX10_findsOrder_29 : decode cX10_findsOrder 29 = .ok (.getfield 336, 3) := by decide +kernel
theorem dX10_findsOrder_32 : decode cX10_findsOrder 32 = .ok (.getfield 321, 3) := by decide +kernel
theorem dX10_findsOrder_35 : decode cX10_findsOrder 35 = .ok (.iload_n 1, 1) := by decide +kernel
theorem dX10_findsOrder_36 : decode cX10_findsOrder 36 = .ok (.iaload, 1) := by decide +kernel
theorem dX10_findsOrder_37 : decode cX10_findsOrder 37 = .ok (.aload_n 0, 1) := by decide +kernel
theorem dX10_findsOrder_38 : decode cX10_findsOrder 38 = .ok (.getfield 336, 3) := by decide +kernel
theorem dX10_findsOrder_41 : decode cX10_findsOrder 41 = .ok (.getfield 324, 3) := by decide +kernel
theorem dX10_findsOrder_44 : decode cX10_findsOrder 44 = .ok (.iload_n 1, 1) := by decide +kernel
theorem dX10_findsOrder_45 : decode cX10_findsOrder 45 = .ok (.iaload, 1) := by decide +kernel
theorem dX10_findsOrder_46 : decode cX10_findsOrder 46 = .ok (.invokevirtual 453, 3) := by decide +kernel
theorem dX10_findsOrder_49 : decode cX10_findsOrder 49 = .ok (.ireturn, 1) := by decide +kernel
theorem dX10_fits_0 : decode cX10_fits 0 = .ok (.aload_n 0, 1) := by decide +kernel
theorem dX10_fits_1 : decode cX10_fits 1 = .ok (.iconst 0, 1) := by decide +kernel
theorem dX10_fits_2 : decode cX10_fits 2 = .ok (.putfield 61, 3) := by decide +kernel
theorem dX10_fits_5 : decode cX10_fits 5 = .ok (.aload_n 0, 1) := by decide +kernel
theorem dX10_fits_6 : decode cX10_fits 6 = .ok (.iload_n 1, 1) := by decide +kernel
theorem dX10_fits_7 : decode cX10_fits 7 = .ok (.invokevirtual 390, 3) := by decide +kernel
theorem dX10_fits_10 : decode cX10_fits 10 = .ok (.ifCond .eq 36, 3) := by decide +kernel
theorem dX10_fits_13 : decode cX10_fits 13 = .ok (.iload_n 2, 1) := by decide +kernel
theorem dX10_fits_14 : decode cX10_fits 14 = .ok (.ifCond .eq 14, 3) := by decide +kernel
theorem dX10_fits_17 : decode cX10_fits 17 = .ok (.aload_n 0, 1) := by decide +kernel
theorem dX10_fits_18 : decode cX10_fits 18 = .ok (.iload_n 3, 1) := by decide +kernel
theorem dX10_fits_19 : decode cX10_fits 19 = .ok (.invokevirtual 346, 3) := by decide +kernel
theorem dX10_fits_22 : decode cX10_fits 22 = .ok (.ifCond .eq 24, 3) := by decide +kernel
theorem dX10_fits_25 : decode cX10_fits 25 = .ok (.goto 11, 3) := by decide +kernel
theorem dX10_fits_28 : decode cX10_fits 28 = .ok (.aload_n 0, 1) := by decide +kernel
theorem dX10_fits_29 : decode cX10_fits 29 = .ok (.iload_n 3, 1) := by decide +kernel
theorem dX10_fits_30 : decode cX10_fits 30 = .ok (.invokevirtual 393, 3) := by decide +kernel
theorem dX10_fits_33 : decode cX10_fits 33 = .ok (.ifCond .eq 13, 3) := by decide +kernel
theorem dX10_fits_36 : decode cX10_fits 36 = .ok (.iload 4, 2) := by decide +kernel
theorem dX10_fits_38 : decode cX10_fits 38 = .ok (.iconst 0, 1) := by decide +kernel
theorem dX10_fits_39 : decode cX10_fits 39 = .ok (.iconst 2, 1) := by decide +kernel
theorem dX10_fits_40 : decode cX10_fits 40 = .ok (.invokestatic 139, 3) := by decide +kernel
theorem dX10_fits_43 : decode cX10_fits 43 = .ok (.ifCond .ne 9, 3) := by decide +kernel
theorem dX10_fits_46 : decode cX10_fits 46 = .ok (.aload_n 0, 1) := by decide +kernel
theorem dX10_fits_47 : decode cX10_fits 47 = .ok (.iconst 1, 1) := by decide +kernel
theorem dX10_fits_48 : decode cX10_fits 48 = .ok (.invokevirtual 67, 3) := by decide +kernel
theorem dX10_fits_51 : decode cX10_fits 51 = .ok (.ireturn, 1) := by decide +kernel
theorem dX10_fits_52 : decode cX10_fits 52 = .ok (.aload_n 0, 1) := by decide +kernel
theorem dX10_fits_53 : decode cX10_fits 53 = .ok (.iload_n 1, 1) := by decide +kernel
theorem dX10_fits_54 : decode cX10_fits 54 = .ok (.iconst 0, 1) := by decide +kernel
theorem dX10_fits_55 : decode cX10_fits 55 = .ok (.invokevirtual 396, 3) := by decide +kernel
theorem dX10_fits_58 : decode cX10_fits 58 = .ok (.aload_n 0, 1) := by decide +kernel
theorem dX10_fits_59 : decode cX10_fits 59 = .ok (.iload 4, 2) := by decide +kernel
theorem dX10_fits_61 : decode cX10_fits 61 = .ok (.invokevirtual 378, 3) := by decide +kernel
theorem dX10_fits_64 : decode cX10_fits 64 = .ok (.ifCond .ne 9, 3) := by decide +kernel
theorem dX10_fits_67 : decode cX10_fits 67 = .ok (.aload_n 0, 1) := by decide +kernel
theorem dX10_fits_68 : decode cX10_fits 68 = .ok (.iconst 5, 1) := by decide +kernel
theorem dX10_fits_69 : decode cX10_fits 69 = .ok (.invokevirtual 67, 3) := by decide +kernel
theorem dX10_fits_72 : decode cX10_fits 72 = .ok (.ireturn, 1) := by decide +kernel
theorem dX10_fits_73 : decode cX10_fits 73 = .ok (.aload_n 0, 1) := by decide +kernel
theorem dX10_fits_74 : decode cX10_fits 74 = .ok (.iload_n 2, 1) := by decide +kernel
theorem dX10_fits_75 : decode cX10_fits 75 = .ok (.ifCond .eq 16, 3) := by decide +kernel
theorem dX10_fits_78 : decode cX10_fits 78 = .ok (.aload_n 0, 1) := by decide +kernel
theorem dX10_fits_79 : decode cX10_fits 79 = .ok (.iload_n 3, 1) := by decide +kernel
theorem dX10_fits_80 : decode cX10_fits 80 = .ok (.iload 4, 2) := by decide +kernel
theorem dX10_fits_82 : decode cX10_fits 82 = .ok (.invokevirtual 381, 3) := by decide +kernel
theorem dX10_fits_85 : decode cX10_fits 85 = .ok (.ifCond .ne 28, 3) := by decide +kernel
theorem dX10_fits_88 : decode cX10_fits 88 = .ok (.goto 21, 3) := by decide +kernel
theorem dX10_fits_91 : decode cX10_fits 91 = .ok (.aload_n 0, 1) := by decide +kernel
theorem dX10_fits_92 : decode cX10_fits 92 = .ok (.iload 4, 2) := by decide +kernel
theorem dX10_fits_94 : decode cX10_fits 94 = .ok (.invokevirtual 369, 3) := by decide +kernel
theorem dX10_fits_97 : decode cX10_fits 97 = .ok (.aload_n 0, 1) := by decide +kernel
theorem dX10_fits_98 : decode cX10_fits 98 = .ok (.getfield 336, 3) := by decide +kernel
theorem dX10_fits_101 : decode cX10_fits 101 = .ok (.getfield 210, 3) := by decide +kernel
theorem dX10_fits_104 : decode cX10_fits 104 = .ok (.iload_n 3, 1) := by decide +kernel
theorem dX10_fits_105 : decode cX10_fits 105 = .ok (.iaload, 1) := by decide +kernel
theorem dX10_fits_106 : decode cX10_fits 106 = .ok (.if_icmp .gt 7, 3) := by decide +kernel
theorem dX10_fits_109 : decode cX10_fits 109 = .ok (.iconst 1, 1) := by decide +kernel
theorem dX10_fits_110 : decode cX10_fits 110 = .ok (.goto 4, 3) := by decide +kernel
theorem dX10_fits_113 : decode cX10_fits 113 = .ok (.iconst 0, 1) := by decide +kernel
theorem dX10_fits_114 : decode cX10_fits 114 = .ok (.invokevirtual 71, 3) := by decide +kernel
theorem dX10_fits_117 : decode cX10_fits 117 = .ok (.ireturn, 1) := by decide +kernel
theorem dX10_fitsRing_0 : decode cX10_fitsRing 0 = .ok (.iconst 0, 1) := by decide +kernel
theorem dX10_fitsRing_1 : decode cX10_fitsRing 1 = .ok (.istore_n 2, 1) := by decide +kernel
theorem dX10_fitsRing_2 : decode cX10_fitsRing 2 = .ok (.iload_n 2, 1) := by decide +kernel
theorem dX10_fitsRing_3 : decode cX10_fitsRing 3 = .ok (.iconst 3, 1) := by decide +kernel
theorem dX10_fitsRing_4 : decode cX10_fitsRing 4 = .ok (.if_icmp .ge 36, 3) := by decide +kernel
theorem dX10_fitsRing_7 : decode cX10_fitsRing 7 = .ok (.aload_n 0, 1) := by decide +kernel
theorem dX10_fitsRing_8 : decode cX10_fitsRing 8 = .ok (.iload_n 2, 1) := by decide +kernel
theorem dX10_fitsRing_9 : decode cX10_fitsRing 9 = .ok (.invokevirtual 378, 3) := by decide +kernel
theorem dX10_fitsRing_12 : decode cX10_fitsRing 12 = .ok (.ifCond .eq 22, 3) := by decide +kernel
theorem dX10_fitsRing_15 : decode cX10_fitsRing 15 = .ok (.aload_n 0, 1) := by decide +kernel
theorem dX10_fitsRing_16 : decode cX10_fitsRing 16 = .ok (.iload_n 2, 1) := by decide +kernel
theorem dX10_fitsRing_17 : decode cX10_fitsRing 17 = .ok (.invokevirtual 369, 3) := by decide +kernel
theorem dX10_fitsRing_20 : decode cX10_fitsRing 20 = .ok (.aload_n 0, 1) := by decide +kernel
theorem dX10_fitsRing_21 : decode cX10_fitsRing 21 = .ok (.getfield 336, 3) := by decide +kernel
theorem dX10_fitsRing_24 : decode cX10_fitsRing 24 = .ok (.getfield 210, 3) := by decide +kernel
theorem dX10_fitsRing_27 : decode cX10_fitsRing 27 = .ok (.iload_n 1, 1) := by decide +kernel
theorem dX10_fitsRing_28 : decode cX10_fitsRing 28 = .ok (.iaload, 1) := by decide +kernel
theorem dX10_fitsRing_29 : decode cX10_fitsRing 29 = .ok (.if_icmp .gt 5, 3) := by decide +kernel
theorem dX10_fitsRing_32 : decode cX10_fitsRing 32 = .ok (.iconst 1, 1) := by decide +kernel
theorem dX10_fitsRing_33 : decode cX10_fitsRing 33 = .ok (.ireturn, 1) := by decide +kernel
theorem dX10_fitsRing_34 : decode cX10_fitsRing 34 = .ok (.iinc 2 1, 3) := by decide +kernel
theorem dX10_fitsRing_37 : decode cX10_fitsRing 37 = .ok (.goto (-35), 3) := by decide +kernel
theorem dX10_fitsRing_40 : decode cX10_fitsRing 40 = .ok (.iconst 0, 1) := by decide +kernel
theorem dX10_fitsRing_41 : decode cX10_fitsRing 41 = .ok (.ireturn, 1) := by decide +kernel
theorem dX10_from_0 : decode cX10_from 0 = .ok (.iload_n 1, 1) := by decide +kernel
theorem dX10_from_1 : decode cX10_from 1 = .ok (.aload_n 0, 1) := by decide +kernel
theorem dX10_from_2 : decode cX10_from 2 = .ok (.getfield 417, 3) := by decide +kernel
theorem dX10_from_5 : decode cX10_from 5 = .ok (.if_icmp .ne 10, 3) := by decide +kernel
theorem dX10_from_8 : decode cX10_from 8 = .ok (.iload_n 2, 1) := by decide +kernel
theorem dX10_from_9 : decode cX10_from 9 = .ok (.iload_n 3, 1) := by decide +kernel
theorem dX10_from_10 : decode cX10_from 10 = .ok (.invokestatic 429, 3) := by decide +kernel
theorem dX10_from_13 : decode cX10_from 13 = .ok (.i2l, 1) := by decide +kernel
theorem dX10_from_14 : decode cX10_from 14 = .ok (.lreturn, 1) := by decide +kernel
theorem dX10_from_15 : decode cX10_from 15 = .ok (.ldc2_w 420, 3) := by decide +kernel
theorem dX10_from_18 : decode cX10_from 18 = .ok (.lstore 4, 2) := by decide +kernel
theorem dX10_from_20 : decode cX10_from 20 = .ok (.iconst 0, 1) := by decide +kernel
theorem dX10_from_21 : decode cX10_from 21 = .ok (.istore 6, 2) := by decide +kernel
theorem dX10_from_23 : decode cX10_from 23 = .ok (.iload 6, 2) := by decide +kernel
theorem dX10_from_25 : decode cX10_from 25 = .ok (.aload_n 0, 1) := by decide +kernel
theorem dX10_from_26 : decode cX10_from 26 = .ok (.getfield 339, 3) := by decide +kernel
theorem dX10_from_29 : decode cX10_from 29 = .ok (.if_icmp .ge 78, 3) := by decide +kernel
theorem dX10_from_32 : decode cX10_from 32 = .ok (.aload_n 0, 1) := by decide +kernel
theorem dX10_from_33 : decode cX10_from 33 = .ok (.getfield 21, 3) := by decide +kernel
theorem dX10_from_36 : decode cX10_from 36 = .ok (.bipush 11, 2) := by decide +kernel
theorem dX10_from_38 : decode cX10_from 38 = .ok (.iload_n 1, 1) := by decide +kernel
theorem dX10_from_39 : decode cX10_from 39 = .ok (.imul, 1) := by decide +kernel
theorem dX10_from_40 : decode cX10_from 40 = .ok (.iload 6, 2) := by decide +kernel
theorem dX10_from_42 : decode cX10_from 42 = .ok (.iadd, 1) := by decide +kernel
theorem dX10_from_43 : decode cX10_from 43 = .ok (.laload, 1) := by decide +kernel
theorem dX10_from_44 : decode cX10_from 44 = .ok (.ldc2_w 420, 3) := by decide +kernel
theorem dX10_from_47 : decode cX10_from 47 = .ok (.lcmp, 1) := by decide +kernel
theorem dX10_from_48 : decode cX10_from 48 = .ok (.ifCond .lt 9, 3) := by decide +kernel
theorem dX10_from_51 : decode cX10_from 51 = .ok (.ldc2_w 420, 3) := by decide +kernel
theorem dX10_from_54 : decode cX10_from 54 = .ok (.goto 28, 3) := by decide +kernel
theorem dX10_from_57 : decode cX10_from 57 = .ok (.aload_n 0, 1) := by decide +kernel
theorem dX10_from_58 : decode cX10_from 58 = .ok (.getfield 21, 3) := by decide +kernel
theorem dX10_from_61 : decode cX10_from 61 = .ok (.bipush 11, 2) := by decide +kernel
theorem dX10_from_63 : decode cX10_from 63 = .ok (.iload_n 1, 1) := by decide +kernel
theorem dX10_from_64 : decode cX10_from 64 = .ok (.imul, 1) := by decide +kernel
theorem dX10_from_65 : decode cX10_from 65 = .ok (.iload 6, 2) := by decide +kernel
theorem dX10_from_67 : decode cX10_from 67 = .ok (.iadd, 1) := by decide +kernel
theorem dX10_from_68 : decode cX10_from 68 = .ok (.laload, 1) := by decide +kernel
theorem dX10_from_69 : decode cX10_from 69 = .ok (.iload_n 2, 1) := by decide +kernel
theorem dX10_from_70 : decode cX10_from 70 = .ok (.aload_n 0, 1) := by decide +kernel
theorem dX10_from_71 : decode cX10_from 71 = .ok (.iload 6, 2) := by decide +kernel
theorem dX10_from_73 : decode cX10_from 73 = .ok (.iconst 1, 1) := by decide +kernel
theorem dX10_from_74 : decode cX10_from 74 = .ok (.invokevirtual 349, 3) := by decide +kernel
theorem dX10_from_77 : decode cX10_from 77 = .ok (.invokestatic 429, 3) := by decide +kernel
theorem dX10_from_80 : decode cX10_from 80 = .ok (.i2l, 1) := by decide +kernel
theorem dX10_from_81 : decode cX10_from 81 = .ok (.ladd, 1) := by decide +kernel
theorem dX10_from_82 : decode cX10_from 82 = .ok (.lstore 7, 2) := by decide +kernel
theorem dX10_from_84 : decode cX10_from 84 = .ok (.lload 7, 2) := by decide +kernel
theorem dX10_from_86 : decode cX10_from 86 = .ok (.lload 4, 2) := by decide +kernel
theorem dX10_from_88 : decode cX10_from 88 = .ok (.lcmp, 1) := by decide +kernel
theorem dX10_from_89 : decode cX10_from 89 = .ok (.ifCond .ge 8, 3) := by decide +kernel
theorem dX10_from_92 : decode cX10_from 92 = .ok (.lload 7, 2) := by decide +kernel
theorem dX10_from_94 : decode cX10_from 94 = .ok (.goto 5, 3) := by decide +kernel
theorem dX10_from_97 : decode cX10_from 97 = .ok (.lload 4, 2) := by decide +kernel
theorem dX10_from_99 : decode cX10_from 99 = .ok (.lstore 4, 2) := by decide +kernel
theorem dX10_from_101 : decode cX10_from 101 = .ok (.iinc 6 1, 3) := by decide +kernel
theorem dX10_from_104 : decode cX10_from 104 = .ok (.goto (-81), 3) := by decide +kernel
theorem dX10_from_107 : decode cX10_from 107 = .ok (.lload 4, 2) := by decide +kernel
theorem dX10_from_109 : decode cX10_from 109 = .ok (.lreturn, 1) := by decide +kernel
theorem dX10_gate_0 : decode cX10_gate 0 = .ok (.aload_n 0, 1) := by decide +kernel
theorem dX10_gate_1 : decode cX10_gate 1 = .ok (.iconst 0, 1) := by decide +kernel
theorem dX10_gate_2 : decode cX10_gate 2 = .ok (.putfield 61, 3) := by decide +kernel
theorem dX10_gate_5 : decode cX10_gate 5 = .ok (.aload_n 0, 1) := by decide +kernel
theorem dX10_gate_6 : decode cX10_gate 6 = .ok (.iload_n 1, 1) := by decide +kernel
theorem dX10_gate_7 : decode cX10_gate 7 = .ok (.invokevirtual 346, 3) := by decide +kernel
theorem dX10_gate_10 : decode cX10_gate 10 = .ok (.ifCond .eq 26, 3) := by decide +kernel
theorem dX10_gate_13 : decode cX10_gate 13 = .ok (.iload_n 2, 1) := by decide +kernel
theorem dX10_gate_14 : decode cX10_gate 14 = .ok (.iconst 0, 1) := by decide +kernel
theorem dX10_gate_15 : decode cX10_gate 15 = .ok (.bipush 6, 2) := by decide +kernel
theorem dX10_gate_17 : decode cX10_gate 17 = .ok (.invokestatic 139, 3) := by decide +kernel
theorem dX10_gate_20 : decode cX10_gate 20 = .ok (.ifCond .eq 16, 3) := by decide +kernel
theorem dX10_gate_23 : decode cX10_gate 23 = .ok (.aload_n 0, 1) := by decide +kernel
theorem dX10_gate_24 : decode cX10_gate 24 = .ok (.aload_n 0, 1) := by decide +kernel
theorem dX10_gate_25 : decode cX10_gate 25 = .ok (.iload_n 1, 1) := by decide +kernel
theorem dX10_gate_26 : decode cX10_gate 26 = .ok (.iload_n 2, 1) := by decide +kernel
theorem dX10_gate_27 : decode cX10_gate 27 = .ok (.invokevirtual 349, 3) := by decide +kernel
theorem dX10_gate_30 : decode cX10_gate 30 = .ok (.invokevirtual 71, 3) := by decide +kernel
theorem dX10_gate_33 : decode cX10_gate 33 = .ok (.goto 8, 3) := by decide +kernel
theorem dX10_gate_36 : decode cX10_gate 36 = .ok (.aload_n 0, 1) := by decide +kernel
theorem dX10_gate_37 : decode cX10_gate 37 = .ok (.iconst 1, 1) := by decide +kernel
theorem dX10_gate_38 : decode cX10_gate 38 = .ok (.invokevirtual 67, 3) := by decide +kernel
theorem dX10_gate_41 : decode cX10_gate 41 = .ok (.ireturn, 1) := by decide +kernel
theorem dX10_gateNext_0 : decode cX10_gateNext 0 = .ok (.aload_n 0, 1) := by decide +kernel
theorem dX10_gateNext_1 : decode cX10_gateNext 1 = .ok (.getfield 43, 3) := by decide +kernel
theorem dX10_gateNext_4 : decode cX10_gateNext 4 = .ok (.bipush 6, 2) := by decide +kernel
theorem dX10_gateNext_6 : decode cX10_gateNext 6 = .ok (.aload_n 0, 1) := by decide +kernel
theorem dX10_gateNext_7 : decode cX10_gateNext 7 = .ok (.getfield 37, 3) := by decide +kernel
theorem dX10_gateNext_10 : decode cX10_gateNext 10 = .ok (.iload_n 1, 1) := by decide +kernel
theorem dX10_gateNext_11 : decode cX10_gateNext 11 = .ok (.iaload, 1) := by decide +kernel
theorem dX10_gateNext_12 : decode cX10_gateNext 12 = .ok (.imul, 1) := by decide +kernel
theorem dX10_gateNext_13 : decode cX10_gateNext 13 = .ok (.aload_n 0, 1) := by decide +kernel
theorem dX10_gateNext_14 : decode cX10_gateNext 14 = .ok (.getfield 31, 3) := by decide +kernel
theorem dX10_gateNext_17 : decode cX10_gateNext 17 = .ok (.bipush 9, 2) := by decide +kernel
theorem dX10_gateNext_19 : decode cX10_gateNext 19 = .ok (.iload_n 1, 1) := by decide +kernel
theorem dX10_gateNext_20 : decode cX10_gateNext 20 = .ok (.imul, 1) := by decide +kernel
theorem dX10_gateNext_21 : decode cX10_gateNext 21 = .ok (.bipush 8, 2) := by decide +kernel
theorem dX10_gateNext_23 : decode cX10_gateNext 23 = .ok (.iadd, 1) := by decide +kernel
theorem dX10_gateNext_24 : decode cX10_gateNext 24 = .ok (.iaload, 1) := by decide +kernel
theorem dX10_gateNext_25 : decode cX10_gateNext 25 = .ok (.iadd, 1) := by decide +kernel
theorem dX10_gateNext_26 : decode cX10_gateNext 26 = .ok (.iaload, 1) := by decide +kernel
theorem dX10_gateNext_27 : decode cX10_gateNext 27 = .ok (.ireturn, 1) := by decide +kernel
theorem dX10_gateOf_0 : decode cX10_gateOf 0 = .ok (.aload_n 0, 1) := by decide +kernel
theorem dX10_gateOf_1 : decode cX10_gateOf 1 = .ok (.iconst 0, 1) := by decide +kernel
theorem dX10_gateOf_2 : decode cX10_gateOf 2 = .ok (.putfield 61, 3) := by decide +kernel
theorem dX10_gateOf_5 : decode cX10_gateOf 5 = .ok (.aload_n 0, 1) := by decide +kernel
theorem dX10_gateOf_6 : decode cX10_gateOf 6 = .ok (.iload_n 1, 1) := by decide +kernel
theorem dX10_gateOf_7 : decode cX10_gateOf 7 = .ok (.invokevirtual 456, 3) := by decide +kernel
theorem dX10_gateOf_10 : decode cX10_gateOf 10 = .ok (.ifCond .eq 7, 3) := by decide +kernel
theorem dX10_gateOf_13 : decode cX10_gateOf 13 = .ok (.iload_n 2, 1) := by decide +kernel
theorem dX10_gateOf_14 : decode cX10_gateOf 14 = .ok (.ifCond .ge 9, 3) := by decide +kernel
theorem dX10_gateOf_17 : decode cX10_gateOf 17 = .ok (.aload_n 0, 1) := by decide +kernel
theorem dX10_gateOf_18 : decode cX10_gateOf 18 = .ok (.iconst 1, 1) := by decide +kernel
theorem dX10_gateOf_19 : decode cX10_gateOf 19 = .ok (.invokevirtual 67, 3) := by decide +kernel
theorem dX10_gateOf_22 : decode cX10_gateOf 22 = .ok (.ireturn, 1) := by decide +kernel
theorem dX10_gateOf_23 : decode cX10_gateOf 23 = .ok (.aload_n 0, 1) := by decide +kernel
theorem dX10_gateOf_24 : decode cX10_gateOf 24 = .ok (.iload_n 1, 1) := by decide +kernel
theorem dX10_gateOf_25 : decode cX10_gateOf 25 = .ok (.invokevirtual 459, 3) := by decide +kernel
theorem dX10_gateOf_28 : decode cX10_gateOf 28 = .ok (.ifCond .ne 10, 3) := by decide +kernel
theorem dX10_gateOf_31 : decode cX10_gateOf 31 = .ok (.aload_n 0, 1) := by decide +kernel
theorem dX10_gateOf_32 : decode cX10_gateOf 32 = .ok (.bipush 6, 2) := by decide +kernel
theorem dX10_gateOf_34 : decode cX10_gateOf 34 = .ok (.invokevirtual 67, 3) := by decide +kernel
theorem dX10_gateOf_37 : decode cX10_gateOf 37 = .ok (.ireturn, 1) := by decide +kernel
theorem dX10_gateOf_38 : decode cX10_gateOf 38 = .ok (.iload_n 2, 1) := by decide +kernel
theorem dX10_gateOf_39 : decode cX10_gateOf 39 = .ok (.aload_n 0, 1) := by decide +kernel
theorem dX10_gateOf_40 : decode cX10_gateOf 40 = .ok (.getfield 446, 3) := by decide +kernel
theorem dX10_gateOf_43 : decode cX10_gateOf 43 = .ok (.if_icmp .ge 16, 3) := by decide +kernel
theorem dX10_gateOf_46 : decode cX10_gateOf 46 = .ok (.aload_n 0, 1) := by decide +kernel
theorem dX10_gateOf_47 : decode cX10_gateOf 47 = .ok (.aload_n 0, 1) := by decide +kernel
theorem dX10_gateOf_48 : decode cX10_gateOf 48 = .ok (.getfield 28, 3) := by decide +kernel
theorem dX10_gateOf_51 : decode cX10_gateOf 51 = .ok (.iload_n 2, 1) := by decide +kernel
theorem dX10_gateOf_52 : decode cX10_gateOf 52 = .ok (.iaload, 1) := by decide +kernel
theorem dX10_gateOf_53 : decode cX10_gateOf 53 = .ok (.invokevirtual 71, 3) := by decide +kernel
theorem dX10_gateOf_56 : decode cX10_gateOf 56 = .ok (.goto 8, 3) := by decide +kernel
theorem dX10_gateOf_59 : decode cX10_gateOf 59 = .ok (.aload_n 0, 1) := by decide +kernel
theorem dX10_gateOf_60 : decode cX10_gateOf 60 = .ok (.iconst 1, 1) := by decide +kernel
theorem dX10_gateOf_61 : decode cX10_gateOf 61 = .ok (.invokevirtual 67, 3) := by decide +kernel
theorem dX10_gateOf_64 : decode cX10_gateOf 64 = .ok (.ireturn, 1) := by decide +kernel
theorem dX10_goes_0 : decode cX10_goes 0 = .ok (.iload_n 3, 1) := by decide +kernel
theorem dX10_goes_1 : decode cX10_goes 1 = .ok (.iload_n 1, 1) := by decide +kernel
theorem dX10_goes_2 : decode cX10_goes 2 = .ok (.if_icmp .le 7, 3) := by decide +kernel
theorem dX10_goes_5 : decode cX10_goes 5 = .ok (.iconst 1, 1) := by decide +kernel
theorem dX10_goes_6 : decode cX10_goes 6 = .ok (.goto 4, 3) := by decide +kernel
theorem dX10_goes_9 : decode cX10_goes 9 = .ok (.iconst (-1), 1) := by decide +kernel
theorem dX10_goes_10 : decode cX10_goes 10 = .ok (.istore 5, 2) := by decide +kernel
theorem dX10_goes_12 : decode cX10_goes 12 = .ok (.aload_n 0, 1) := by decide +kernel
theorem dX10_goes_13 : decode cX10_goes 13 = .ok (.iload_n 3, 1) := by decide +kernel
theorem dX10_goes_14 : decode cX10_goes 14 = .ok (.iload_n 1, 1) := by decide +kernel
theorem dX10_goes_15 : decode cX10_goes 15 = .ok (.if_icmp .le 9, 3) := by decide +kernel
theorem dX10_goes_18 : decode cX10_goes 18 = .ok (.iload_n 3, 1) := by decide +kernel
theorem dX10_goes_19 : decode cX10_goes 19 = .ok (.iload_n 1, 1) := by decide +kernel
theorem dX10_goes_20 : decode cX10_goes 20 = .ok (.isub, 1) := by decide +kernel
theorem dX10_goes_21 : decode cX10_goes 21 = .ok (.goto 6, 3) := by decide +kernel
theorem dX10_goes_24 : decode cX10_goes 24 = .ok (.iload_n 1, 1) := by decide +kernel
theorem dX10_goes_25 : decode cX10_goes 25 = .ok (.iload_n 3, 1) := by decide +kernel
theorem dX10_goes_26 : decode cX10_goes 26 = .ok (.isub, 1) := by decide +kernel
theorem dX10_goes_27 : decode cX10_goes 27 = .ok (.putfield 417, 3) := by decide +kernel
theorem dX10_goes_30 : decode cX10_goes 30 = .ok (.iconst 0, 1) := by decide +kernel
theorem dX10_goes_31 : decode cX10_goes 31 = .ok (.istore 6, 2) := by decide +kernel
theorem dX10_goes_33 : decode cX10_goes 33 = .ok (.iload 6, 2) := by decide +kernel
theorem dX10_goes_35 : decode cX10_goes 35 = .ok (.aload_n 0, 1) := by decide +kernel
theorem dX10_goes_36 : decode cX10_goes 36 = .ok (.getfield 417, 3) := by decide +kernel
theorem dX10_goes_39 : decode cX10_goes 39 = .ok (.if_icmp .gt 27, 3) := by decide +kernel
theorem dX10_goes_42 : decode cX10_goes 42 = .ok (.aload_n 0, 1) := by decide +kernel
theorem dX10_goes_43 : decode cX10_goes 43 = .ok (.iload_n 1, 1) := by decide +kernel
theorem dX10_goes_44 : decode cX10_goes 44 = .ok (.iload 6, 2) := by decide +kernel
theorem dX10_goes_46 : decode cX10_goes 46 = .ok (.iload 5, 2) := by decide +kernel
theorem dX10_goes_48 : decode cX10_goes 48 = .ok (.imul, 1) := by decide +kernel
theorem dX10_goes_49 : decode cX10_goes 49 = .ok (.iadd, 1) := by decide +kernel
theorem dX10_goes_50 : decode cX10_goes 50 = .ok (.invokevirtual 403, 3) := by decide +kernel
theorem dX10_goes_53 : decode cX10_goes 53 = .ok (.ifCond .ne 7, 3) := by decide +kernel
theorem dX10_goes_56 : decode cX10_goes 56 = .ok (.ldc2_w 420, 3) := by decide +kernel
theorem dX10_goes_59 : decode cX10_goes 59 = .ok (.lreturn, 1) := by decide +kernel
theorem dX10_goes_60 : decode cX10_goes 60 = .ok (.iinc 6 1, 3) := by decide +kernel
theorem dX10_goes_63 : decode cX10_goes 63 = .ok (.goto (-30), 3) := by decide +kernel
theorem dX10_goes_66 : decode cX10_goes 66 = .ok (.aload_n 0, 1) := by decide +kernel
theorem dX10_goes_67 : decode cX10_goes 67 = .ok (.getfield 417, 3) := by decide +kernel
theorem dX10_goes_70 : decode cX10_goes 70 = .ok (.iconst 1, 1) := by decide +kernel
theorem dX10_goes_71 : decode cX10_goes 71 = .ok (.isub, 1) := by decide +kernel
theorem dX10_goes_72 : decode cX10_goes 72 = .ok (.istore 6, 2) := by decide +kernel
theorem dX10_goes_74 : decode cX10_goes 74 = .ok (.iload 6, 2) := by decide +kernel
theorem dX10_goes_76 : decode cX10_goes 76 = .ok (.ifCond .lt 111, 3) := by decide +kernel
theorem dX10_goes_79 : decode cX10_goes 79 = .ok (.iload 5, 2) := by decide +kernel
theorem dX10_goes_81 : decode cX10_goes 81 = .ok (.ifCond .le 10, 3) := by decide +kernel
theorem dX10_goes_84 : decode cX10_goes 84 = .ok (.iload_n 1, 1) := by decide +kernel
theorem dX10_goes_85 : decode cX10_goes 85 = .ok (.iload 6, 2) := by decide +kernel
theorem dX10_goes_87 : decode cX10_goes 87 = .ok (.iadd, 1) := by decide +kernel
theorem dX10_goes_88 : decode cX10_goes 88 = .ok (.goto 9, 3) := by decide +kernel
theorem dX10_goes_91 : decode cX10_goes 91 = .ok (.iload_n 1, 1) := by decide +kernel
theorem dX10_goes_92 : decode cX10_goes 92 = .ok (.iload 6, 2) := by decide +kernel
theorem dX10_goes_94 : decode cX10_goes 94 = .ok (.isub, 1) := by decide +kernel
theorem dX10_goes_95 : decode cX10_goes 95 = .ok (.iconst 1, 1) := by decide +kernel
theorem dX10_goes_96 : decode cX10_goes 96 = .ok (.isub, 1) := by decide +kernel
theorem dX10_goes_97 : decode cX10_goes 97 = .ok (.istore 7, 2) := by decide +kernel
theorem dX10_goes_99 : decode cX10_goes 99 = .ok (.iconst 0, 1) := by decide +kernel
theorem dX10_goes_100 : decode cX10_goes 100 = .ok (.istore 8, 2) := by decide +kernel
theorem dX10_goes_102 : decode cX10_goes 102 = .ok (.iload 8, 2) := by decide +kernel
theorem dX10_goes_104 : decode cX10_goes 104 = .ok (.aload_n 0, 1) := by decide +kernel
theorem dX10_goes_105 : decode cX10_goes 105 = .ok (.getfield 339, 3) := by decide +kernel
theorem dX10_goes_108 : decode cX10_goes 108 = .ok (.if_icmp .ge 73, 3) := by decide +kernel
theorem dX10_goes_111 : decode cX10_goes 111 = .ok (.aload_n 0, 1) := by decide +kernel
theorem dX10_goes_112 : decode cX10_goes 112 = .ok (.getfield 21, 3) := by decide +kernel
theorem dX10_goes_115 : decode cX10_goes 115 = .ok (.bipush 11, 2) := by decide +kernel
theorem dX10_goes_117 : decode cX10_goes 117 = .ok (.iload 6, 2) := by decide +kernel
theorem dX10_goes_119 : decode cX10_goes 119 = .ok (.imul, 1) := by decide +kernel
theorem dX10_goes_120 : decode cX10_goes 120 = .ok (.iload 8, 2) := by decide +kernel
theorem dX10_goes_122 : decode cX10_goes 122 = .ok (.iadd, 1) := by decide +kernel
theorem dX10_goes_123 : decode cX10_goes 123 = .ok (.aload_n 0, 1) := by decide +kernel
theorem dX10_goes_124 : decode cX10_goes 124 = .ok (.iload 8, 2) := by decide +kernel
theorem dX10_goes_126 : decode cX10_goes 126 = .ok (.iconst 0, 1) := by decide +kernel
theorem dX10_goes_127 : decode cX10_goes 127 = .ok (.invokevirtual 349, 3) := by decide +kernel
theorem dX10_goes_130 : decode cX10_goes 130 = .ok (.iload 7, 2) := by decide +kernel
theorem dX10_goes_132 : decode cX10_goes 132 = .ok (.if_icmp .ne 39, 3) := by decide +kernel
theorem dX10_goes_135 : decode cX10_goes 135 = .ok (.aload_n 0, 1) := by decide +kernel
theorem dX10_goes_136 : decode cX10_goes 136 = .ok (.iload 8, 2) := by decide +kernel
theorem dX10_goes_138 : decode cX10_goes 138 = .ok (.invokevirtual 406, 3) := by decide +kernel
theorem dX10_goes_141 : decode cX10_goes 141 = .ok (.ifCond .eq 30, 3) := by decide +kernel
theorem dX10_goes_144 : decode cX10_goes 144 = .ok (.aload_n 0, 1) := by decide +kernel
theorem dX10_goes_145 : decode cX10_goes 145 = .ok (.iload 8, 2) := by decide +kernel
theorem dX10_goes_147 : decode cX10_goes 147 = .ok (.invokevirtual 422, 3) := by decide +kernel
theorem dX10_goes_150 : decode cX10_goes 150 = .ok (.aload_n 0, 1) := by decide +kernel
theorem dX10_goes_151 : decode cX10_goes 151 = .ok (.iload 6, 2) := by decide +kernel
theorem dX10_goes_153 : decode cX10_goes 153 = .ok (.iconst 1, 1) := by decide +kernel
theorem dX10_goes_154 : decode cX10_goes 154 = .ok (.iadd, 1) := by decide +kernel
theorem dX10_goes_155 : decode cX10_goes 155 = .ok (.aload_n 0, 1) := by decide +kernel
theorem dX10_goes_156 : decode cX10_goes 156 = .ok (.iload 8, 2) := by decide +kernel
theorem dX10_goes_158 : decode cX10_goes 158 = .ok (.iconst 1, 1) := by decide +kernel
theorem dX10_goes_159 : decode cX10_goes 159 = .ok (.invokevirtual 349, 3) := by decide +kernel
theorem dX10_goes_162 : decode cX10_goes 162 = .ok (.iload 4, 2) := by decide +kernel
theorem dX10_goes_164 : decode cX10_goes 164 = .ok (.invokevirtual 426, 3) := by decide +kernel
theorem dX10_goes_167 : decode cX10_goes 167 = .ok (.ladd, 1) := by decide +kernel
theorem dX10_goes_168 : decode cX10_goes 168 = .ok (.goto 6, 3) := by decide +kernel
theorem dX10_goes_171 : decode cX10_goes 171 = .ok (.ldc2_w 420, 3) := by decide +kernel
theorem dX10_goes_174 : decode cX10_goes 174 = .ok (.lastore, 1) := by decide +kernel
theorem dX10_goes_175 : decode cX10_goes 175 = .ok (.iinc 8 1, 3) := by decide +kernel
theorem dX10_goes_178 : decode cX10_goes 178 = .ok (.goto (-76), 3) := by decide +kernel
theorem dX10_goes_181 : decode cX10_goes 181 = .ok (.iinc 6 (-1), 3) := by decide +kernel
theorem dX10_goes_184 : decode cX10_goes 184 = .ok (.goto (-110), 3) := by decide +kernel
theorem dX10_goes_187 : decode cX10_goes 187 = .ok (.aload_n 0, 1) := by decide +kernel
theorem dX10_goes_188 : decode cX10_goes 188 = .ok (.iconst 0, 1) := by decide +kernel
theorem dX10_goes_189 : decode cX10_goes 189 = .ok (.iload_n 2, 1) := by decide +kernel
theorem dX10_goes_190 : decode cX10_goes 190 = .ok (.iload 4, 2) := by decide +kernel
theorem dX10_goes_192 : decode cX10_goes 192 = .ok (.invokevirtual 426, 3) := by decide +kernel
theorem dX10_goes_195 : decode cX10_goes 195 = .ok (.lstore 6, 2) := by decide +kernel
theorem dX10_goes_197 : decode cX10_goes 197 = .ok (.lload 6, 2) := by decide +kernel
theorem dX10_goes_199 : decode cX10_goes 199 = .ok (.ldc2_w 420, 3) := by decide +kernel
theorem dX10_goes_202 : decode cX10_goes 202 = .ok (.lcmp, 1) := by decide +kernel
theorem dX10_goes_203 : decode cX10_goes 203 = .ok (.ifCond .lt 7, 3) := by decide +kernel
theorem dX10_goes_206 : decode cX10_goes 206 = .ok (.ldc2_w 420, 3) := by decide +kernel
theorem dX10_goes_209 : decode cX10_goes 209 = .ok (.lreturn, 1) := by decide +kernel
theorem dX10_goes_210 : decode cX10_goes 210 = .ok (.iload_n 2, 1) := by decide +kernel
theorem dX10_goes_211 : decode cX10_goes 211 = .ok (.istore 8, 2) := by decide +kernel
theorem dX10_goes_213 : decode cX10_goes 213 = .ok (.iconst 0, 1) := by decide +kernel
theorem dX10_goes_214 : decode cX10_goes 214 = .ok (.istore 9, 2) := by decide +kernel
theorem dX10_goes_216 : decode cX10_goes 216 = .ok (.iload 9, 2) := by decide +kernel
theorem dX10_goes_218 : decode cX10_goes 218 = .ok (.aload_n 0, 1) := by decide +kernel
theorem dX10_goes_219 : decode cX10_goes 219 = .ok (.getfield 417, 3) := by decide +kernel
theorem dX10_goes_222 : decode cX10_goes 222 = .ok (.if_icmp .ge 77, 3) := by decide +kernel
theorem dX10_goes_225 : decode cX10_goes 225 = .ok (.iconst 0, 1) := by decide +kernel
theorem dX10_goes_226 : decode cX10_goes 226 = .ok (.istore 10, 2) := by decide +kernel
theorem dX10_goes_228 : decode cX10_goes 228 = .ok (.iload 8, 2) := by decide +kernel
theorem dX10_goes_230 : decode cX10_goes 230 = .ok (.aload_n 0, 1) := by decide +kernel
theorem dX10_goes_231 : decode cX10_goes 231 = .ok (.iload 10, 2) := by decide +kernel
theorem dX10_goes_233 : decode cX10_goes 233 = .ok (.iconst 1, 1) := by decide +kernel
theorem dX10_goes_234 : decode cX10_goes 234 = .ok (.invokevirtual 349, 3) := by decide +kernel
theorem dX10_goes_237 : decode cX10_goes 237 = .ok (.invokestatic 429, 3) := by decide +kernel
theorem dX10_goes_240 : decode cX10_goes 240 = .ok (.i2l, 1) := by decide +kernel
theorem dX10_goes_241 : decode cX10_goes 241 = .ok (.aload_n 0, 1) := by decide +kernel
theorem dX10_goes_242 : decode cX10_goes 242 = .ok (.getfield 21, 3) := by decide +kernel
theorem dX10_goes_245 : decode cX10_goes 245 = .ok (.bipush 11, 2) := by decide +kernel
theorem dX10_goes_247 : decode cX10_goes 247 = .ok (.iload 9, 2) := by decide +kernel
theorem dX10_goes_249 : decode cX10_goes 249 = .ok (.imul, 1) := by decide +kernel
theorem dX10_goes_250 : decode cX10_goes 250 = .ok (.iload 10, 2) := by decide +kernel
theorem dX10_goes_252 : decode cX10_goes 252 = .ok (.iadd, 1) := by decide +kernel
theorem dX10_goes_253 : decode cX10_goes 253 = .ok (.laload, 1) := by decide +kernel
theorem dX10_goes_254 : decode cX10_goes 254 = .ok (.ladd, 1) := by decide +kernel
theorem dX10_goes_255 : decode cX10_goes 255 = .ok (.aload_n 0, 1) := by decide +kernel
theorem dX10_goes_256 : decode cX10_goes 256 = .ok (.iload 9, 2) := by decide +kernel
theorem dX10_goes_258 : decode cX10_goes 258 = .ok (.iload 8, 2) := by decide +kernel
theorem dX10_goes_260 : decode cX10_goes 260 = .ok (.iload 4, 2) := by decide +kernel
theorem dX10_goes_262 : decode cX10_goes 262 = .ok (.invokevirtual 426, 3) := by decide +kernel
theorem dX10_goes_265 : decode cX10_goes 265 = .ok (.lcmp, 1) := by decide +kernel
theorem dX10_goes_266 : decode cX10_goes 266 = .ok (.ifCond .eq 9, 3) := by decide +kernel
theorem dX10_goes_269 : decode cX10_goes 269 = .ok (.iinc 10 1, 3) := by decide +kernel
theorem dX10_goes_272 : decode cX10_goes 272 = .ok (.goto (-44), 3) := by decide +kernel
theorem dX10_goes_275 : decode cX10_goes 275 = .ok (.aload_n 0, 1) := by decide +kernel
theorem dX10_goes_276 : decode cX10_goes 276 = .ok (.getfield 25, 3) := by decide +kernel
theorem dX10_goes_279 : decode cX10_goes 279 = .ok (.iload 9, 2) := by decide +kernel
theorem dX10_goes_281 : decode cX10_goes 281 = .ok (.iload 10, 2) := by decide +kernel
theorem dX10_goes_283 : decode cX10_goes 283 = .ok (.iastore, 1) := by decide +kernel
theorem dX10_goes_284 : decode cX10_goes 284 = .ok (.aload_n 0, 1) := by decide +kernel
theorem dX10_goes_285 : decode cX10_goes 285 = .ok (.iload 10, 2) := by decide +kernel
theorem dX10_goes_287 : decode cX10_goes 287 = .ok (.iconst 1, 1) := by decide +kernel
theorem dX10_goes_288 : decode cX10_goes 288 = .ok (.invokevirtual 349, 3) := by decide +kernel
theorem dX10_goes_291 : decode cX10_goes 291 = .ok (.istore 8, 2) := by decide +kernel
theorem dX10_goes_293 : decode cX10_goes 293 = .ok (.iinc 9 1, 3) := by decide +kernel
theorem dX10_goes_296 : decode cX10_goes 296 = .ok (.goto (-80), 3) := by decide +kernel
theorem dX10_goes_299 : decode cX10_goes 299 = .ok (.lload 6, 2) := by decide +kernel
theorem dX10_goes_301 : decode cX10_goes 301 = .ok (.lreturn, 1) := by decide +kernel
theorem dX10_goesOn_0 : decode cX10_goesOn 0 = .ok (.aload_n 0, 1) := by decide +kernel
theorem dX10_goesOn_1 : decode cX10_goesOn 1 = .ok (.getfield 89, 3) := by decide +kernel
theorem dX10_goesOn_4 : decode cX10_goesOn 4 = .ok (.iconst 5, 1) := by decide +kernel
theorem dX10_goesOn_5 : decode cX10_goesOn 5 = .ok (.if_icmp .ne 4, 3) := by decide +kernel
theorem dX10_goesOn_8 : decode cX10_goesOn 8 = .ok (.return_, 1) := by decide +kernel
theorem dX10_goesOn_9 : decode cX10_goesOn 9 = .ok (.aload_n 0, 1) := by decide +kernel
theorem dX10_goesOn_10 : decode cX10_goesOn 10 = .ok (.aload_n 0, 1) := by decide +kernel
theorem dX10_goesOn_11 : decode cX10_goesOn 11 = .ok (.getfield 92, 3) := by decide +kernel
theorem dX10_goesOn_14 : decode cX10_goesOn 14 = .ok (.invokevirtual 95, 3) := by decide +kernel
theorem dX10_goesOn_17 : decode cX10_goesOn 17 = .ok (.bipush 32, 2) := by decide +kernel
theorem dX10_goesOn_19 : decode cX10_goesOn 19 = .ok (.if_icmp .ne 16, 3) := by decide +kernel
theorem dX10_goesOn_22 : decode cX10_goesOn 22 = .ok (.aload_n 0, 1) := by decide +kernel
theorem dX10_goesOn_23 : decode cX10_goesOn 23 = .ok (.dup, 1) := by decide +kernel
theorem dX10_goesOn_24 : decode cX10_goesOn 24 = .ok (.getfield 92, 3) := by decide +kernel
theorem dX10_goesOn_27 : decode cX10_goesOn 27 = .ok (.iconst 1, 1) := by decide +kernel
theorem dX10_goesOn_28 : decode cX10_goesOn 28 = .ok (.iadd, 1) := by decide +kernel
theorem dX10_goesOn_29 : decode cX10_goesOn 29 = .ok (.putfield 92, 3) := by decide +kernel
theorem dX10_goesOn_32 : decode cX10_goesOn 32 = .ok (.goto (-23), 3) := by decide +kernel
theorem dX10_goesOn_35 : decode cX10_goesOn 35 = .ok (.aload_n 0, 1) := by decide +kernel
theorem dX10_goesOn_36 : decode cX10_goesOn 36 = .ok (.aload_n 0, 1) := by decide +kernel
theorem dX10_goesOn_37 : decode cX10_goesOn 37 = .ok (.getfield 92, 3) := by decide +kernel
theorem dX10_goesOn_40 : decode cX10_goesOn 40 = .ok (.putfield 98, 3) := by decide +kernel
theorem dX10_goesOn_43 : decode cX10_goesOn 43 = .ok (.aload_n 0, 1) := by decide +kernel
theorem dX10_goesOn_44 : decode cX10_goesOn 44 = .ok (.iconst 0, 1) := by decide +kernel
theorem dX10_goesOn_45 : decode cX10_goesOn 45 = .ok (.putfield 89, 3) := by decide +kernel
theorem dX10_goesOn_48 : decode cX10_goesOn 48 = .ok (.aload_n 0, 1) := by decide +kernel
theorem dX10_goesOn_49 : decode cX10_goesOn 49 = .ok (.iconst 0, 1) := by decide +kernel
theorem dX10_goesOn_50 : decode cX10_goesOn 50 = .ok (.putfield 101, 3) := by decide +kernel
theorem dX10_goesOn_53 : decode cX10_goesOn 53 = .ok (.aload_n 0, 1) := by decide +kernel
theorem dX10_goesOn_54 : decode cX10_goesOn 54 = .ok (.aload_n 0, 1) := by decide +kernel
theorem dX10_goesOn_55 : decode cX10_goesOn 55 = .ok (.getfield 92, 3) := by decide +kernel
theorem dX10_goesOn_58 : decode cX10_goesOn 58 = .ok (.invokevirtual 95, 3) := by decide +kernel
theorem dX10_goesOn_61 : decode cX10_goesOn 61 = .ok (.istore_n 1, 1) := by decide +kernel
theorem dX10_goesOn_62 : decode cX10_goesOn 62 = .ok (.iconst 0, 1) := by decide +kernel
theorem dX10_goesOn_63 : decode cX10_goesOn 63 = .ok (.istore_n 2, 1) := by decide +kernel
theorem dX10_goesOn_64 : decode cX10_goesOn 64 = .ok (.iload_n 1, 1) := by decide +kernel
theorem dX10_goesOn_65 : decode cX10_goesOn 65 = .ok (.iconst (-1), 1) := by decide +kernel
theorem dX10_goesOn_66 : decode cX10_goesOn 66 = .ok (.if_icmp .ne 11, 3) := by decide +kernel
theorem dX10_goesOn_69 : decode cX10_goesOn 69 = .ok (.aload_n 0, 1) := by decide +kernel
theorem dX10_goesOn_70 : decode cX10_goesOn 70 = .ok (.iconst 1, 1) := by decide +kernel
theorem dX10_goesOn_71 : decode cX10_goesOn 71 = .ok (.putfield 89, 3) := by decide +kernel
theorem dX10_goesOn_74 : decode cX10_goesOn 74 = .ok (.goto 207, 3) := by decide +kernel
theorem dX10_goesOn_77 : decode cX10_goesOn 77 = .ok (.iload_n 1, 1) := by decide +kernel
theorem dX10_goesOn_78 : decode cX10_goesOn 78 = .ok (.invokestatic 104, 3) := by decide +kernel
theorem dX10_goesOn_81 : decode cX10_goesOn 81 = .ok (.ifCond .eq 85, 3) := by decide +kernel
theorem dX10_goesOn_84 : decode cX10_goesOn 84 = .ok (.aload_n 0, 1) := by decide +kernel
theorem dX10_goesOn_85 : decode cX10_goesOn 85 = .ok (.lconst 0, 1) := by decide +kernel
theorem dX10_goesOn_86 : decode cX10_goesOn 86 = .ok (.putfield 108, 3) := by decide +kernel
theorem dX10_goesOn_89 : decode cX10_goesOn 89 = .ok (.aload_n 0, 1) := by decide +kernel
theorem dX10_goesOn_90 : decode cX10_goesOn 90 = .ok (.aload_n 0, 1) := by decide +kernel
theorem dX10_goesOn_91 : decode cX10_goesOn 91 = .ok (.getfield 92, 3) := by decide +kernel
theorem dX10_goesOn_94 : decode cX10_goesOn 94 = .ok (.invokevirtual 95, 3) := by decide +kernel
theorem dX10_goesOn_97 : decode cX10_goesOn 97 = .ok (.invokestatic 104, 3) := by decide +kernel
theorem dX10_goesOn_100 : decode cX10_goesOn 100 = .ok (.ifCond .eq 52, 3) := by decide +kernel
theorem dX10_goesOn_103 : decode cX10_goesOn 103 = .ok (.iload_n 2, 1) := by decide +kernel
theorem dX10_goesOn_104 : decode cX10_goesOn 104 = .ok (.bipush 8, 2) := by decide +kernel
theorem dX10_goesOn_106 : decode cX10_goesOn 106 = .ok (.if_icmp .ge 30, 3) := by decide +kernel
theorem dX10_goesOn_109 : decode cX10_goesOn 109 = .ok (.aload_n 0, 1) := by decide +kernel
theorem dX10_goesOn_110 : decode cX10_goesOn 110 = .ok (.ldc2_w 83, 3) := by decide +kernel
theorem dX10_goesOn_113 : decode cX10_goesOn 113 = .ok (.aload_n 0, 1) := by decide +kernel
theorem dX10_goesOn_114 : decode cX10_goesOn 114 = .ok (.getfield 108, 3) := by decide +kernel
theorem dX10_goesOn_117 : decode cX10_goesOn 117 = .ok (.lmul, 1) := by decide +kernel
theorem dX10_goesOn_118 : decode cX10_goesOn 118 = .ok (.aload_n 0, 1) := by decide +kernel
theorem dX10_goesOn_119 : decode cX10_goesOn 119 = .ok (.aload_n 0, 1) := by decide +kernel
theorem dX10_goesOn_120 : decode cX10_goesOn 120 = .ok (.getfield 92, 3) := by decide +kernel
theorem dX10_goesOn_123 : decode cX10_goesOn 123 = .ok (.invokevirtual 95, 3) := by decide +kernel
theorem dX10_goesOn_126 : decode cX10_goesOn 126 = .ok (.bipush 97, 2) := by decide +kernel
theorem dX10_goesOn_128 : decode cX10_goesOn 128 = .ok (.isub, 1) := by decide +kernel
theorem dX10_goesOn_129 : decode cX10_goesOn 129 = .ok (.iconst 1, 1) := by decide +kernel
theorem dX10_goesOn_130 : decode cX10_goesOn 130 = .ok (.iadd, 1) := by decide +kernel
theorem dX10_goesOn_131 : decode cX10_goesOn 131 = .ok (.i2l, 1) := by decide +kernel
theorem dX10_goesOn_132 : decode cX10_goesOn 132 = .ok (.ladd, 1) := by decide +kernel
theorem dX10_goesOn_133 : decode cX10_goesOn 133 = .ok (.putfield 108, 3) := by decide +kernel
theorem dX10_goesOn_136 : decode cX10_goesOn 136 = .ok (.iinc 2 1, 3) := by decide +kernel
theorem dX10_goesOn_139 : decode cX10_goesOn 139 = .ok (.aload_n 0, 1) := by decide +kernel
theorem dX10_goesOn_140 : decode cX10_goesOn 140 = .ok (.dup, 1) := by decide +kernel
theorem dX10_goesOn_141 : decode cX10_goesOn 141 = .ok (.getfield 92, 3) := by decide +kernel
theorem dX10_goesOn_144 : decode cX10_goesOn 144 = .ok (.iconst 1, 1) := by decide +kernel
theorem dX10_goesOn_145 : decode cX10_goesOn 145 = .ok (.iadd, 1) := by decide +kernel
theorem dX10_goesOn_146 : decode cX10_goesOn 146 = .ok (.putfield 92, 3) := by decide +kernel
theorem dX10_goesOn_149 : decode cX10_goesOn 149 = .ok (.goto (-60), 3) := by decide +kernel
theorem dX10_goesOn_152 : decode cX10_goesOn 152 = .ok (.iload_n 2, 1) := by decide +kernel
theorem dX10_goesOn_153 : decode cX10_goesOn 153 = .ok (.bipush 8, 2) := by decide +kernel
theorem dX10_goesOn_155 : decode cX10_goesOn 155 = .ok (.if_icmp .gt 126, 3) := by decide +kernel
theorem dX10_goesOn_158 : decode cX10_goesOn 158 = .ok (.aload_n 0, 1) := by decide +kernel
theorem dX10_goesOn_159 : decode cX10_goesOn 159 = .ok (.iconst 2, 1) := by decide +kernel
theorem dX10_goesOn_160 : decode cX10_goesOn 160 = .ok (.putfield 89, 3) := by decide +kernel
theorem dX10_goesOn_163 : decode cX10_goesOn 163 = .ok (.goto 118, 3) := by decide +kernel
theorem dX10_goesOn_166 : decode cX10_goesOn 166 = .ok (.iload_n 1, 1) := by decide +kernel
theorem dX10_goesOn_167 : decode cX10_goesOn 167 = .ok (.invokestatic 112, 3) := by decide +kernel
theorem dX10_goesOn_170 : decode cX10_goesOn 170 = .ok (.ifCond .eq 79, 3) := by decide +kernel
theorem dX10_goesOn_173 : decode cX10_goesOn 173 = .ok (.aload_n 0, 1) := by decide +kernel
theorem dX10_goesOn_174 : decode cX10_goesOn 174 = .ok (.iconst 0, 1) := by decide +kernel
theorem dX10_goesOn_175 : decode cX10_goesOn 175 = .ok (.putfield 115, 3) := by decide +kernel
theorem dX10_goesOn_178 : decode cX10_goesOn 178 = .ok (.aload_n 0, 1) := by decide +kernel
theorem dX10_goesOn_179 : decode cX10_goesOn 179 = .ok (.aload_n 0, 1) := by decide +kernel
theorem dX10_goesOn_180 : decode cX10_goesOn 180 = .ok (.getfield 92, 3) := by decide +kernel
theorem dX10_goesOn_183 : decode cX10_goesOn 183 = .ok (.invokevirtual 95, 3) := by decide +kernel
theorem dX10_goesOn_186 : decode cX10_goesOn 186 = .ok (.invokestatic 112, 3) := by decide +kernel
theorem dX10_goesOn_189 : decode cX10_goesOn 189 = .ok (.ifCond .eq 47, 3) := by decide +kernel
theorem dX10_goesOn_192 : decode cX10_goesOn 192 = .ok (.iload_n 2, 1) := by decide +kernel
theorem dX10_goesOn_193 : decode cX10_goesOn 193 = .ok (.iconst 3, 1) := by decide +kernel
theorem dX10_goesOn_194 : decode cX10_goesOn 194 = .ok (.if_icmp .ge 26, 3) := by decide +kernel
theorem dX10_goesOn_197 : decode cX10_goesOn 197 = .ok (.aload_n 0, 1) := by decide +kernel
theorem dX10_goesOn_198 : decode cX10_goesOn 198 = .ok (.bipush 10, 2) := by decide +kernel
theorem dX10_goesOn_200 : decode cX10_goesOn 200 = .ok (.aload_n 0, 1) := by decide +kernel
theorem dX10_goesOn_201 : decode cX10_goesOn 201 = .ok (.getfield 115, 3) := by decide +kernel
theorem dX10_goesOn_204 : decode cX10_goesOn 204 = .ok (.imul, 1) := by decide +kernel
theorem dX10_goesOn_205 : decode cX10_goesOn 205 = .ok (.aload_n 0, 1) := by decide +kernel
theorem dX10_goesOn_206 : decode cX10_goesOn 206 = .ok (.aload_n 0, 1) := by decide +kernel
theorem dX10_goesOn_207 : decode cX10_goesOn 207 = .ok (.getfield 92, 3) := by decide +kernel
theorem dX10_goesOn_210 : decode cX10_goesOn 210 = .ok (.invokevirtual 95, 3) := by decide +kernel
theorem dX10_goesOn_213 : decode cX10_goesOn 213 = .ok (.iadd, 1) := by decide +kernel
theorem dX10_goesOn_214 : decode cX10_goesOn 214 = .ok (.bipush 48, 2) := by decide +kernel
theorem dX10_goesOn_216 : decode cX10_goesOn 216 = .ok (.isub, 1) := by decide +kernel
theorem dX10_goesOn_217 : decode cX10_goesOn 217 = .ok (.putfield 115, 3) := by decide +kernel
theorem dX10_goesOn_220 : decode cX10_goesOn 220 = .ok (.iinc 2 1, 3) := by decide +kernel
theorem dX10_goesOn_223 : decode cX10_goesOn 223 = .ok (.aload_n 0, 1) := by decide +kernel
theorem dX10_goesOn_224 : decode cX10_goesOn 224 = .ok (.dup, 1) := by decide +kernel
theorem dX10_goesOn_225 : decode cX10_goesOn 225 = .ok (.getfield 92, 3) := by decide +kernel
theorem dX10_goesOn_228 : decode cX10_goesOn 228 = .ok (.iconst 1, 1) := by decide +kernel
theorem dX10_goesOn_229 : decode cX10_goesOn 229 = .ok (.iadd, 1) := by decide +kernel
theorem dX10_goesOn_230 : decode cX10_goesOn 230 = .ok (.putfield 92, 3) := by decide +kernel
theorem dX10_goesOn_233 : decode cX10_goesOn 233 = .ok (.goto (-55), 3) := by decide +kernel
theorem dX10_goesOn_236 : decode cX10_goesOn 236 = .ok (.iload_n 2, 1) := by decide +kernel
theorem dX10_goesOn_237 : decode cX10_goesOn 237 = .ok (.iconst 3, 1) := by decide +kernel
theorem dX10_goesOn_238 : decode cX10_goesOn 238 = .ok (.if_icmp .gt 43, 3) := by decide +kernel
theorem dX10_goesOn_241 : decode cX10_goesOn 241 = .ok (.aload_n 0, 1) := by decide +kernel
theorem dX10_goesOn_242 : decode cX10_goesOn 242 = .ok (.iconst 3, 1) := by decide +kernel
theorem dX10_goesOn_243 : decode cX10_goesOn 243 = .ok (.putfield 89, 3) := by decide +kernel
theorem dX10_goesOn_246 : decode cX10_goesOn 246 = .ok (.goto 35, 3) := by decide +kernel
theorem dX10_goesOn_249 : decode cX10_goesOn 249 = .ok (.iload_n 1, 1) := by decide +kernel
theorem dX10_goesOn_250 : decode cX10_goesOn 250 = .ok (.bipush 59, 2) := by decide +kernel
theorem dX10_goesOn_252 : decode cX10_goesOn 252 = .ok (.if_icmp .eq 9, 3) := by decide +kernel
theorem dX10_goesOn_255 : decode cX10_goesOn 255 = .ok (.iload_n 1, 1) := by decide +kernel
theorem dX10_goesOn_256 : decode cX10_goesOn 256 = .ok (.bipush 44, 2) := by decide +kernel
theorem dX10_goesOn_258 : decode cX10_goesOn 258 = .ok (.if_icmp .ne 23, 3) := by decide +kernel
theorem dX10_goesOn_261 : decode cX10_goesOn 261 = .ok (.aload_n 0, 1) := by decide +kernel
theorem dX10_goesOn_262 : decode cX10_goesOn 262 = .ok (.iconst 4, 1) := by decide +kernel
theorem dX10_goesOn_263 : decode cX10_goesOn 263 = .ok (.putfield 89, 3) := by decide +kernel
theorem dX10_goesOn_266 : decode cX10_goesOn 266 = .ok (.aload_n 0, 1) := by decide +kernel
theorem dX10_goesOn_267 : decode cX10_goesOn 267 = .ok (.iload_n 1, 1) := by decide +kernel
theorem dX10_goesOn_268 : decode cX10_goesOn 268 = .ok (.putfield 101, 3) := by decide +kernel
theorem dX10_goesOn_271 : decode cX10_goesOn 271 = .ok (.aload_n 0, 1) := by decide +kernel
theorem dX10_goesOn_272 : decode cX10_goesOn 272 = .ok (.dup, 1) := by decide +kernel
theorem dX10_goesOn_273 : decode cX10_goesOn 273 = .ok (.getfield 92, 3) := by decide +kernel
theorem dX10_goesOn_276 : decode cX10_goesOn 276 = .ok (.iconst 1, 1) := by decide +kernel
theorem dX10_goesOn_277 : decode cX10_goesOn 277 = .ok (.iadd, 1) := by decide +kernel
theorem dX10_goesOn_278 : decode cX10_goesOn 278 = .ok (.putfield 92, 3) := by decide +kernel
theorem dX10_goesOn_281 : decode cX10_goesOn 281 = .ok (.return_, 1) := by decide +kernel
theorem dX10_goesThrough_0 : decode cX10_goesThrough 0 = .ok (.aload_n 0, 1) := by decide +kernel
theorem dX10_goesThrough_1 : decode cX10_goesThrough 1 = .ok (.iload_n 1, 1) := by decide +kernel
theorem dX10_goesThrough_2 : decode cX10_goesThrough 2 = .ok (.bipush 6, 2) := by decide +kernel
theorem dX10_goesThrough_4 : decode cX10_goesThrough 4 = .ok (.invokevirtual 349, 3) := by decide +kernel
theorem dX10_goesThrough_7 : decode cX10_goesThrough 7 = .ok (.ifCond .ne 15, 3) := by decide +kernel
theorem dX10_goesThrough_10 : decode cX10_goesThrough 10 = .ok (.aload_n 0, 1) := by decide +kernel
theorem dX10_goesThrough_11 : decode cX10_goesThrough 11 = .ok (.iload_n 1, 1) := by decide +kernel
theorem dX10_goesThrough_12 : decode cX10_goesThrough 12 = .ok (.invokevirtual 384, 3) := by decide +kernel
theorem dX10_goesThrough_15 : decode cX10_goesThrough 15 = .ok (.ifCond .ne 7, 3) := by decide +kernel
theorem dX10_goesThrough_18 : decode cX10_goesThrough 18 = .ok (.iconst 1, 1) := by decide +kernel
theorem dX10_goesThrough_19 : decode cX10_goesThrough 19 = .ok (.goto 4, 3) := by decide +kernel
theorem dX10_goesThrough_22 : decode cX10_goesThrough 22 = .ok (.iconst 0, 1) := by decide +kernel
theorem dX10_goesThrough_23 : decode cX10_goesThrough 23 = .ok (.ireturn, 1) := by decide +kernel
theorem dX10_good_0 : decode cX10_good 0 = .ok (.aload_n 0, 1) := by decide +kernel
theorem dX10_good_1 : decode cX10_good 1 = .ok (.iconst 0, 1) := by decide +kernel
theorem dX10_good_2 : decode cX10_good 2 = .ok (.putfield 64, 3) := by decide +kernel
theorem dX10_good_5 : decode cX10_good 5 = .ok (.aload_n 0, 1) := by decide +kernel
theorem dX10_good_6 : decode cX10_good 6 = .ok (.iconst (-1), 1) := by decide +kernel
theorem dX10_good_7 : decode cX10_good 7 = .ok (.putfield 9, 3) := by decide +kernel
theorem dX10_good_10 : decode cX10_good 10 = .ok (.iload_n 1, 1) := by decide +kernel
theorem dX10_good_11 : decode cX10_good 11 = .ok (.ireturn, 1) := by decide +kernel
theorem dX10_granted_0 : decode cX10_granted 0 = .ok (.aload_n 0, 1) := by decide +kernel
theorem dX10_granted_1 : decode cX10_granted 1 = .ok (.iconst 0, 1) := by decide +kernel
theorem dX10_granted_2 : decode cX10_granted 2 = .ok (.invokevirtual 71, 3) := by decide +kernel
theorem dX10_granted_5 : decode cX10_granted 5 = .ok (.pop, 1) := by decide +kernel
theorem dX10_granted_6 : decode cX10_granted 6 = .ok (.iconst 1, 1) := by decide +kernel
theorem dX10_granted_7 : decode cX10_granted 7 = .ok (.ireturn, 1) := by decide +kernel
theorem dX10_hasPose_0 : decode cX10_hasPose 0 = .ok (.aload_n 0, 1) := by decide +kernel
theorem dX10_hasPose_1 : decode cX10_hasPose 1 = .ok (.getfield 366, 3) := by decide +kernel
theorem dX10_hasPose_4 : decode cX10_hasPose 4 = .ok (.iload_n 1, 1) := by decide +kernel
theorem dX10_hasPose_5 : decode cX10_hasPose 5 = .ok (.ishr, 1) := by decide +kernel
theorem dX10_hasPose_6 : decode cX10_hasPose 6 = .ok (.iconst 1, 1) := by decide +kernel
theorem dX10_hasPose_7 : decode cX10_hasPose 7 = .ok (.iand, 1) := by decide +kernel
theorem dX10_hasPose_8 : decode cX10_hasPose 8 = .ok (.iconst 1, 1) := by decide +kernel
theorem dX10_hasPose_9 : decode cX10_hasPose 9 = .ok (.if_icmp .ne 7, 3) := by decide +kernel
theorem dX10_hasPose_12 : decode cX10_hasPose 12 = .ok (.iconst 1, 1) := by decide +kernel
theorem dX10_hasPose_13 : decode cX10_hasPose 13 = .ok (.goto 4, 3) := by decide +kernel
theorem dX10_hasPose_16 : decode cX10_hasPose 16 = .ok (.iconst 0, 1) := by decide +kernel
theorem dX10_hasPose_17 : decode cX10_hasPose 17 = .ok (.ireturn, 1) := by decide +kernel
theorem dX10_highIn_0 : decode cX10_highIn 0 = .ok (.iload_n 1, 1) := by decide +kernel
theorem dX10_highIn_1 : decode cX10_highIn 1 = .ok (.ifCond .ne 10, 3) := by decide +kernel
theorem dX10_highIn_4 : decode cX10_highIn 4 = .ok (.aload_n 0, 1) := by decide +kernel
theorem dX10_highIn_5 : decode cX10_highIn 5 = .ok (.getfield 364, 3) := by decide +kernel
theorem dX10_highIn_8 : decode cX10_highIn 8 = .ok (.goto 19, 3) := by decide +kernel
theorem dX10_highIn_11 : decode cX10_highIn 11 = .ok (.iload_n 1, 1) := by decide +kernel
theorem dX10_highIn_12 : decode cX10_highIn 12 = .ok (.iconst 1, 1) := by decide +kernel
theorem dX10_highIn_13 : decode cX10_highIn 13 = .ok (.if_icmp .ne 10, 3) := by decide +kernel
theorem dX10_highIn_16 : decode cX10_highIn 16 = .ok (.aload_n 0, 1) := by decide +kernel
theorem dX10_highIn_17 : decode cX10_highIn 17 = .ok (.getfield 362, 3) := by decide +kernel
theorem dX10_highIn_20 : decode cX10_highIn 20 = .ok (.goto 7, 3) := by decide +kernel
theorem dX10_highIn_23 : decode cX10_highIn 23 = .ok (.aload_n 0, 1) := by decide +kernel
theorem dX10_highIn_24 : decode cX10_highIn 24 = .ok (.getfield 357, 3) := by decide +kernel
theorem dX10_highIn_27 : decode cX10_highIn 27 = .ok (.ireturn, 1) := by decide +kernel
theorem dX10_hold_0 : decode cX10_hold 0 = .ok (.aload_n 0, 1) := by decide +kernel
theorem dX10_hold_1 : decode cX10_hold 1 = .ok (.iconst 0, 1) := by decide +kernel
theorem dX10_hold_2 : decode cX10_hold 2 = .ok (.putfield 61, 3) := by decide +kernel
theorem dX10_hold_5 : decode cX10_hold 5 = .ok (.aload_n 0, 1) := by decide +kernel
theorem dX10_hold_6 : decode cX10_hold 6 = .ok (.iload_n 1, 1) := by decide +kernel
theorem dX10_hold_7 : decode cX10_hold 7 = .ok (.invokevirtual 393, 3) := by decide +kernel
theorem dX10_hold_10 : decode cX10_hold 10 = .ok (.ifCond .eq 15, 3) := by decide +kernel
theorem dX10_hold_13 : decode cX10_hold 13 = .ok (.aload_n 0, 1) := by decide +kernel
theorem dX10_hold_14 : decode cX10_hold 14 = .ok (.aload_n 0, 1) := by decide +kernel
theorem dX10_hold_15 : decode cX10_hold 15 = .ok (.iload_n 1, 1) := by decide +kernel
theorem dX10_hold_16 : decode cX10_hold 16 = .ok (.invokevirtual 520, 3) := by decide +kernel
theorem dX10_hold_19 : decode cX10_hold 19 = .ok (.invokevirtual 71, 3) := by decide +kernel
theorem dX10_hold_22 : decode cX10_hold 22 = .ok (.goto 8, 3) := by decide +kernel
theorem dX10_hold_25 : decode cX10_hold 25 = .ok (.aload_n 0, 1) := by decide +kernel
theorem dX10_hold_26 : decode cX10_hold 26 = .ok (.iconst 1, 1) := by decide +kernel
theorem dX10_hold_27 : decode cX10_hold 27 = .ok (.invokevirtual 67, 3) := by decide +kernel
theorem dX10_hold_30 : decode cX10_hold 30 = .ok (.ireturn, 1) := by decide +kernel
theorem dX10_holds_0 : decode cX10_holds 0 = .ok (.iconst 0, 1) := by decide +kernel
theorem dX10_holds_1 : decode cX10_holds 1 = .ok (.istore_n 2, 1) := by decide +kernel
theorem dX10_holds_2 : decode cX10_holds 2 = .ok (.iconst 0, 1) := by decide +kernel
theorem dX10_holds_3 : decode cX10_holds 3 = .ok (.istore_n 3, 1) := by decide +kernel
theorem dX10_holds_4 : decode cX10_holds 4 = .ok (.iconst 0, 1) := by decide +kernel
theorem dX10_holds_5 : decode cX10_holds 5 = .ok (.istore 4, 2) := by decide +kernel
theorem dX10_holds_7 : decode cX10_holds 7 = .ok (.iload 4, 2) := by decide +kernel
theorem dX10_holds_9 : decode cX10_holds 9 = .ok (.aload_n 0, 1) := by decide +kernel
theorem dX10_holds_10 : decode cX10_holds 10 = .ok (.getfield 336, 3) := by decide +kernel
theorem dX10_holds_13 : decode cX10_holds 13 = .ok (.getfield 174, 3) := by decide +kernel
theorem dX10_holds_16 : decode cX10_holds 16 = .ok (.if_icmp .ge 45, 3) := by decide +kernel
theorem dX10_holds_19 : decode cX10_holds 19 = .ok (.iload_n 2, 1) := by decide +kernel
theorem dX10_holds_20 : decode cX10_holds 20 = .ok (.iload 4, 2) := by decide +kernel
theorem dX10_holds_22 : decode cX10_holds 22 = .ok (.iload_n 1, 1) := by decide +kernel
theorem dX10_holds_23 : decode cX10_holds 23 = .ok (.if_icmp .lt 16, 3) := by decide +kernel
theorem dX10_holds_26 : decode cX10_holds 26 = .ok (.aload_n 0, 1) := by decide +kernel
theorem dX10_holds_27 : decode cX10_holds 27 = .ok (.getfield 336, 3) := by decide +kernel
theorem dX10_holds_30 : decode cX10_holds 30 = .ok (.getfield 267, 3) := by decide +kernel
theorem dX10_holds_33 : decode cX10_holds 33 = .ok (.iload 4, 2) := by decide +kernel
theorem dX10_holds_35 : decode cX10_holds 35 = .ok (.iaload, 1) := by decide +kernel
theorem dX10_holds_36 : decode cX10_holds 36 = .ok (.goto 4, 3) := by decide +kernel
theorem dX10_holds_39 : decode cX10_holds 39 = .ok (.iconst 0, 1) := by decide +kernel
theorem dX10_holds_40 : decode cX10_holds 40 = .ok (.iadd, 1) := by decide +kernel
theorem dX10_holds_41 : decode cX10_holds 41 = .ok (.istore_n 2, 1) := by decide +kernel
theorem dX10_holds_42 : decode cX10_holds 42 = .ok (.iload_n 3, 1) := by decide +kernel
theorem dX10_holds_43 : decode cX10_holds 43 = .ok (.aload_n 0, 1) := by decide +kernel
theorem dX10_holds_44 : decode cX10_holds 44 = .ok (.getfield 336, 3) := by decide +kernel
theorem dX10_holds_47 : decode cX10_holds 47 = .ok (.getfield 269, 3) := by decide +kernel
theorem dX10_holds_50 : decode cX10_holds 50 = .ok (.iload 4, 2) := by decide +kernel
theorem dX10_holds_52 : decode cX10_holds 52 = .ok (.iaload, 1) := by decide +kernel
theorem dX10_holds_53 : decode cX10_holds 53 = .ok (.iadd, 1) := by decide +kernel
theorem dX10_holds_54 : decode cX10_holds 54 = .ok (.istore_n 3, 1) := by decide +kernel
theorem dX10_holds_55 : decode cX10_holds 55 = .ok (.iinc 4 1, 3) := by decide +kernel
theorem dX10_holds_58 : decode cX10_holds 58 = .ok (.goto (-51), 3) := by decide +kernel
theorem dX10_holds_61 : decode cX10_holds 61 = .ok (.iload_n 3, 1) := by decide +kernel
theorem dX10_holds_62 : decode cX10_holds 62 = .ok (.ifCond .ne 9, 3) := by decide +kernel
theorem dX10_holds_65 : decode cX10_holds 65 = .ok (.sipush 999, 3) := by decide +kernel
theorem dX10_holds_68 : decode cX10_holds 68 = .ok (.goto 6, 3) := by decide +kernel
theorem dX10_holds_71 : decode cX10_holds 71 = .ok (.iload_n 2, 1) := by decide +kernel
theorem dX10_holds_72 : decode cX10_holds 72 = .ok (.iload_n 3, 1) := by decide +kernel
theorem dX10_holds_73 : decode cX10_holds 73 = .ok (.idiv, 1) := by decide +kernel
theorem dX10_holds_74 : decode cX10_holds 74 = .ok (.ireturn, 1) := by decide +kernel
theorem dX10_hours_0 : decode cX10_hours 0 = .ok (.aload_n 0, 1) := by decide +kernel
theorem dX10_hours_1 : decode cX10_hours 1 = .ok (.iconst 0, 1) := by decide +kernel
theorem dX10_hours_2 : decode cX10_hours 2 = .ok (.putfield 61, 3) := by decide +kernel
theorem dX10_hours_5 : decode cX10_hours 5 = .ok (.aload_n 0, 1) := by decide +kernel
theorem dX10_hours_6 : decode cX10_hours 6 = .ok (.iload_n 1, 1) := by decide +kernel
theorem dX10_hours_7 : decode cX10_hours 7 = .ok (.iload_n 2, 1) := by decide +kernel
theorem dX10_hours_8 : decode cX10_hours 8 = .ok (.iload_n 3, 1) := by decide +kernel
theorem dX10_hours_9 : decode cX10_hours 9 = .ok (.iload 4, 2) := by decide +kernel
theorem dX10_hours_11 : decode cX10_hours 11 = .ok (.iload 5, 2) := by decide +kernel
theorem dX10_hours_13 : decode cX10_hours 13 = .ok (.invokevirtual 449, 3) := by decide +kernel
theorem dX10_hours_16 : decode cX10_hours 16 = .ok (.ifCond .ne 9, 3) := by decide +kernel
theorem dX10_hours_19 : decode cX10_hours 19 = .ok (.aload_n 0, 1) := by decide +kernel
theorem dX10_hours_20 : decode cX10_hours 20 = .ok (.iconst 1, 1) := by decide +kernel
theorem dX10_hours_21 : decode cX10_hours 21 = .ok (.invokevirtual 67, 3) := by decide +kernel
theorem dX10_hours_24 : decode cX10_hours 24 = .ok (.ireturn, 1) := by decide +kernel
theorem dX10_hours_25 : decode cX10_hours 25 = .ok (.aload_n 0, 1) := by decide +kernel
theorem dX10_hours_26 : decode cX10_hours 26 = .ok (.aload_n 0, 1) := by decide +kernel
theorem dX10_hours_27 : decode cX10_hours 27 = .ok (.iload_n 1, 1) := by decide +kernel
theorem dX10_hours_28 : decode cX10_hours 28 = .ok (.iload_n 2, 1) := by decide +kernel
theorem dX10_hours_29 : decode cX10_hours 29 = .ok (.iload_n 3, 1) := by decide +kernel
theorem dX10_hours_30 : decode cX10_hours 30 = .ok (.iload 4, 2) := by decide +kernel
theorem dX10_hours_32 : decode cX10_hours 32 = .ok (.iload 5, 2) := by decide +kernel
theorem dX10_hours_34 : decode cX10_hours 34 = .ok (.invokevirtual 453, 3) := by decide +kernel
theorem dX10_hours_37 : decode cX10_hours 37 = .ok (.ifCond .eq 10, 3) := by decide +kernel
theorem dX10_hours_40 : decode cX10_hours 40 = .ok (.aload_n 0, 1) := by decide +kernel
theorem dX10_hours_41 : decode cX10_hours 41 = .ok (.getfield 439, 3) := by decide +kernel
theorem dX10_hours_44 : decode cX10_hours 44 = .ok (.goto 5, 3) := by decide +kernel
theorem dX10_hours_47 : decode cX10_hours 47 = .ok (.bipush (-2), 2) := by decide +kernel
theorem dX10_hours_49 : decode cX10_hours 49 = .ok (.invokevirtual 71, 3) := by decide +kernel
theorem dX10_hours_52 : decode cX10_hours 52 = .ok (.ireturn, 1) := by decide +kernel
theorem dX10_hoursAt_0 : decode cX10_hoursAt 0 = .ok (.aload_n 0, 1) := by decide +kernel
theorem dX10_hoursAt_1 : decode cX10_hoursAt 1 = .ok (.getfield 359, 3) := by decide +kernel
theorem dX10_hoursAt_4 : decode cX10_hoursAt 4 = .ok (.aload_n 0, 1) := by decide +kernel
theorem dX10_hoursAt_5 : decode cX10_hoursAt 5 = .ok (.iload_n 1, 1) := by decide +kernel
theorem dX10_hoursAt_6 : decode cX10_hoursAt 6 = .ok (.iconst 4, 1) := by decide +kernel
theorem dX10_hoursAt_7 : decode cX10_hoursAt 7 = .ok (.invokevirtual 349, 3) := by decide +kernel
theorem dX10_hoursAt_10 : decode cX10_hoursAt 10 = .ok (.invokestatic 354, 3) := by decide +kernel
theorem dX10_hoursAt_13 : decode cX10_hoursAt 13 = .ok (.ireturn, 1) := by decide +kernel
theorem dX10_hoursOf_0 : decode cX10_hoursOf 0 = .ok (.aload_n 0, 1) := by decide +kernel
theorem dX10_hoursOf_1 : decode cX10_hoursOf 1 = .ok (.iconst 0, 1) := by decide +kernel
theorem dX10_hoursOf_2 : decode cX10_hoursOf 2 = .ok (.putfield 61, 3) := by decide +kernel
theorem dX10_hoursOf_5 : decode cX10_hoursOf 5 = .ok (.aload_n 0, 1) := by decide +kernel
theorem dX10_hoursOf_6 : decode cX10_hoursOf 6 = .ok (.iload_n 1, 1) := by decide +kernel
theorem dX10_hoursOf_7 : decode cX10_hoursOf 7 = .ok (.invokevirtual 456, 3) := by decide +kernel
theorem dX10_hoursOf_10 : decode cX10_hoursOf 10 = .ok (.ifCond .ne 9, 3) := by decide +kernel
theorem dX10_hoursOf_13 : decode cX10_hoursOf 13 = .ok (.aload_n 0, 1) := by decide +kernel
theorem dX10_hoursOf_14 : decode cX10_hoursOf 14 = .ok (.iconst 1, 1) := by decide +kernel
theorem dX10_hoursOf_15 : decode cX10_hoursOf 15 = .ok (.invokevirtual 67, 3) := by decide +kernel
theorem dX10_hoursOf_18 : decode cX10_hoursOf 18 = .ok (.ireturn, 1) := by decide +kernel
theorem dX10_hoursOf_19 : decode cX10_hoursOf 19 = .ok (.aload_n 0, 1) := by decide +kernel
theorem dX10_hoursOf_20 : decode cX10_hoursOf 20 = .ok (.aload_n 0, 1) := by decide +kernel
theorem dX10_hoursOf_21 : decode cX10_hoursOf 21 = .ok (.iload_n 1, 1) := by decide +kernel
theorem dX10_hoursOf_22 : decode cX10_hoursOf 22 = .ok (.invokevirtual 459, 3) := by decide +kernel
theorem dX10_hoursOf_25 : decode cX10_hoursOf 25 = .ok (.ifCond .eq 10, 3) := by decide +kernel
theorem dX10_hoursOf_28 : decode cX10_hoursOf 28 = .ok (.aload_n 0, 1) := by decide +kernel
theorem dX10_hoursOf_29 : decode cX10_hoursOf 29 = .ok (.getfield 439, 3) := by decide +kernel
theorem dX10_hoursOf_32 : decode cX10_hoursOf 32 = .ok (.goto 5, 3) := by decide +kernel
theorem dX10_hoursOf_35 : decode cX10_hoursOf 35 = .ok (.bipush (-2), 2) := by decide +kernel
theorem dX10_hoursOf_37 : decode cX10_hoursOf 37 = .ok (.invokevirtual 71, 3) := by decide +kernel
theorem dX10_hoursOf_40 : decode cX10_hoursOf 40 = .ok (.ireturn, 1) := by decide +kernel
theorem dX10_in_0 : decode cX10_in 0 = .ok (.iload_n 0, 1) := by decide +kernel
theorem dX10_in_1 : decode cX10_in 1 = .ok (.iload_n 1, 1) := by decide +kernel
theorem dX10_in_2 : decode cX10_in 2 = .ok (.if_icmp .lt 12, 3) := by decide +kernel
theorem dX10_in_5 : decode cX10_in 5 = .ok (.iload_n 0, 1) := by decide +kernel
theorem dX10_in_6 : decode cX10_in 6 = .ok (.iload_n 2, 1) := by decide +kernel
theorem dX10_in_7 : decode cX10_in 7 = .ok (.if_icmp .gt 7, 3) := by decide +kernel
theorem dX10_in_10 : decode cX10_in 10 = .ok (.iconst 1, 1) := by decide +kernel
theorem dX10_in_11 : decode cX10_in 11 = .ok (.goto 4, 3) := by decide +kernel
theorem dX10_in_14 : decode cX10_in 14 = .ok (.iconst 0, 1) := by decide +kernel
theorem dX10_in_15 : decode cX10_in 15 = .ok (.ireturn, 1) := by decide +kernel
theorem dX10_init_0 : decode cX10_init 0 = .ok (.aload_n 0, 1) := by decide +kernel
theorem dX10_init_1 : decode cX10_init 1 = .ok (.invokespecial 3, 3) := by decide +kernel
theorem dX10_init_4 : decode cX10_init 4 = .ok (.aload_n 0, 1) := by decide +kernel
theorem dX10_init_5 : decode cX10_init 5 = .ok (.iconst (-1), 1) := by decide +kernel
theorem dX10_init_6 : decode cX10_init 6 = .ok (.putfield 9, 3) := by decide +kernel
theorem dX10_init_9 : decode cX10_init 9 = .ok (.aload_n 0, 1) := by decide +kernel
theorem dX10_init_10 : decode cX10_init 10 = .ok (.sipush 900, 3) := by decide +kernel
theorem dX10_init_13 : decode cX10_init 13 = .ok (.newarray .byte, 2) := by decide +kernel
theorem dX10_init_15 : decode cX10_init 15 = .ok (.putfield 13, 3) := by decide +kernel
theorem dX10_init_18 : decode cX10_init 18 = .ok (.aload_n 0, 1) := by decide +kernel
theorem dX10_init_19 : decode cX10_init 19 = .ok (.bipush 77, 2) := by decide +kernel
theorem dX10_init_21 : decode cX10_init 21 = .ok (.newarray .int, 2) := by decide +kernel
theorem dX10_init_23 : decode cX10_init 23 = .ok (.putfield 17, 3) := by decide +kernel
theorem dX10_init_26 : decode cX10_init 26 = .ok (.aload_n 0, 1) := by decide +kernel
theorem dX10_init_27 : decode cX10_init 27 = .ok (.bipush 66, 2) := by decide +kernel
theorem dX10_init_29 : decode cX10_init 29 = .ok (.newarray .long, 2) := by decide +kernel
theorem dX10_init_31 : decode cX10_init 31 = .ok (.putfield 21, 3) := by decide +kernel
theorem dX10_init_34 : decode cX10_init 34 = .ok (.aload_n 0, 1) := by decide +kernel
theorem dX10_init_35 : decode cX10_init 35 = .ok (.bipush 6, 2) := by decide +kernel
theorem dX10_init_37 : decode cX10_init 37 = .ok (.newarray .int, 2) := by decide +kernel
theorem dX10_init_39 : decode cX10_init 39 = .ok (.putfield 25, 3) := by decide +kernel
theorem dX10_init_42 : decode cX10_init 42 = .ok (.aload_n 0, 1) := by decide +kernel
theorem dX10_init_43 : decode cX10_init 43 = .ok (.bipush 6, 2) := by decide +kernel
theorem dX10_init_45 : decode cX10_init 45 = .ok (.newarray .int, 2) := by decide +kernel
theorem dX10_init_47 : decode cX10_init 47 = .ok (.putfield 28, 3) := by decide +kernel
theorem dX10_init_50 : decode cX10_init 50 = .ok (.aload_n 0, 1) := by decide +kernel
theorem dX10_init_51 : decode cX10_init 51 = .ok (.sipush 671, 3) := by decide +kernel
theorem dX10_init_54 : decode cX10_init 54 = .ok (.newarray .int, 2) := by decide +kernel
theorem dX10_init_56 : decode cX10_init 56 = .ok (.putfield 31, 3) := by decide +kernel
theorem dX10_init_59 : decode cX10_init 59 = .ok (.aload_n 0, 1) := by decide +kernel
theorem dX10_init_60 : decode cX10_init 60 = .ok (.sipush 2013, 3) := by decide +kernel
theorem dX10_init_63 : decode cX10_init 63 = .ok (.newarray .int, 2) := by decide +kernel
theorem dX10_init_65 : decode cX10_init 65 = .ok (.putfield 34, 3) := by decide +kernel
theorem dX10_init_68 : decode cX10_init 68 = .ok (.aload_n 0, 1) := by decide +kernel
theorem dX10_init_69 : decode cX10_init 69 = .ok (.bipush 72, 2) := by decide +kernel
theorem dX10_init_71 : decode cX10_init 71 = .ok (.newarray .int, 2) := by decide +kernel
theorem dX10_init_73 : decode cX10_init 73 = .ok (.putfield 37, 3) := by decide +kernel
theorem dX10_init_76 : decode cX10_init 76 = .ok (.aload_n 0, 1) := by decide +kernel
theorem dX10_init_77 : decode cX10_init 77 = .ok (.bipush 72, 2) := by decide +kernel
theorem dX10_init_79 : decode cX10_init 79 = .ok (.newarray .int, 2) := by decide +kernel
theorem dX10_init_81 : decode cX10_init 81 = .ok (.putfield 40, 3) := by decide +kernel
theorem dX10_init_84 : decode cX10_init 84 = .ok (.aload_n 0, 1) := by decide +kernel
theorem dX10_init_85 : decode cX10_init 85 = .ok (.bipush 48, 2) := by decide +kernel
theorem dX10_init_87 : decode cX10_init 87 = .ok (.newarray .int, 2) := by decide +kernel
theorem dX10_init_89 : decode cX10_init 89 = .ok (.putfield 43, 3) := by decide +kernel
theorem dX10_init_92 : decode cX10_init 92 = .ok (.aload_n 0, 1) := by decide +kernel
theorem dX10_init_93 : decode cX10_init 93 = .ok (.bipush 8, 2) := by decide +kernel
theorem dX10_init_95 : decode cX10_init 95 = .ok (.newarray .int, 2) := by decide +kernel
theorem dX10_init_97 : decode cX10_init 97 = .ok (.putfield 46, 3) := by decide +kernel
theorem dX10_init_100 : decode cX10_init 100 = .ok (.aload_n 0, 1) := by decide +kernel
theorem dX10_init_101 : decode cX10_init 101 = .ok (.bipush 72, 2) := by decide +kernel
theorem dX10_init_103 : decode cX10_init 103 = .ok (.newarray .int, 2) := by decide +kernel
theorem dX10_init_105 : decode cX10_init 105 = .ok (.putfield 49, 3) := by decide +kernel
theorem dX10_init_108 : decode cX10_init 108 = .ok (.aload_n 0, 1) := by decide +kernel
theorem dX10_init_109 : decode cX10_init 109 = .ok (.bipush 72, 2) := by decide +kernel
theorem dX10_init_111 : decode cX10_init 111 = .ok (.newarray .int, 2) := by decide +kernel
theorem dX10_init_113 : decode cX10_init 113 = .ok (.putfield 52, 3) := by decide +kernel
theorem dX10_init_116 : decode cX10_init 116 = .ok (.aload_n 0, 1) := by decide +kernel
theorem dX10_init_117 : decode cX10_init 117 = .ok (.sipush 770, 3) := by decide +kernel
theorem dX10_init_120 : decode cX10_init 120 = .ok (.newarray .int, 2) := by decide +kernel
theorem dX10_init_122 : decode cX10_init 122 = .ok (.putfield 55, 3) := by decide +kernel
theorem dX10_init_125 : decode cX10_init 125 = .ok (.aload_n 0, 1) := by decide +kernel
theorem dX10_init_126 : decode cX10_init 126 = .ok (.bipush 10, 2) := by decide +kernel
theorem dX10_init_128 : decode cX10_init 128 = .ok (.newarray .int, 2) := by decide +kernel
theorem dX10_init_130 : decode cX10_init 130 = .ok (.putfield 58, 3) := by decide +kernel
theorem dX10_init_133 : decode cX10_init 133 = .ok (.return_, 1) := by decide +kernel
theorem dX10_isAtEnd_0 : decode cX10_isAtEnd 0 = .ok (.aload_n 0, 1) := by decide +kernel
theorem dX10_isAtEnd_1 : decode cX10_isAtEnd 1 = .ok (.getfield 31, 3) := by decide +kernel
theorem dX10_isAtEnd_4 : decode cX10_isAtEnd 4 = .ok (.bipush 9, 2) := by decide +kernel
theorem dX10_isAtEnd_6 : decode cX10_isAtEnd 6 = .ok (.iload_n 1, 1) := by decide +kernel
theorem dX10_isAtEnd_7 : decode cX10_isAtEnd 7 = .ok (.imul, 1) := by decide +kernel
theorem dX10_isAtEnd_8 : decode cX10_isAtEnd 8 = .ok (.bipush 8, 2) := by decide +kernel
theorem dX10_isAtEnd_10 : decode cX10_isAtEnd 10 = .ok (.iadd, 1) := by decide +kernel
theorem dX10_isAtEnd_11 : decode cX10_isAtEnd 11 = .ok (.iaload, 1) := by decide +kernel
theorem dX10_isAtEnd_12 : decode cX10_isAtEnd 12 = .ok (.aload_n 0, 1) := by decide +kernel
theorem dX10_isAtEnd_13 : decode cX10_isAtEnd 13 = .ok (.getfield 46, 3) := by decide +kernel
theorem dX10_isAtEnd_16 : decode cX10_isAtEnd 16 = .ok (.aload_n 0, 1) := by decide +kernel
theorem dX10_isAtEnd_17 : decode cX10_isAtEnd 17 = .ok (.getfield 37, 3) := by decide +kernel
theorem dX10_isAtEnd_20 : decode cX10_isAtEnd 20 = .ok (.iload_n 1, 1) := by decide +kernel
theorem dX10_isAtEnd_21 : decode cX10_isAtEnd 21 = .ok (.iaload, 1) := by decide +kernel
theorem dX10_isAtEnd_22 : decode cX10_isAtEnd 22 = .ok (.iaload, 1) := by decide +kernel
theorem dX10_isAtEnd_23 : decode cX10_isAtEnd 23 = .ok (.if_icmp .ne 7, 3) := by decide +kernel
theorem dX10_isAtEnd_26 : decode cX10_isAtEnd 26 = .ok (.iconst 1, 1) := by decide +kernel
theorem dX10_isAtEnd_27 : decode cX10_isAtEnd 27 = .ok (.goto 4, 3) := by decide +kernel
theorem dX10_isAtEnd_30 : decode cX10_isAtEnd 30 = .ok (.iconst 0, 1) := by decide +kernel
theorem dX10_isAtEnd_31 : decode cX10_isAtEnd 31 = .ok (.ireturn, 1) := by decide +kernel
theorem dX10_isBorne_0 : decode cX10_isBorne 0 = .ok (.iconst 0, 1) := by decide +kernel
theorem dX10_isBorne_1 : decode cX10_isBorne 1 = .ok (.istore_n 2, 1) := by decide +kernel
theorem dX10_isBorne_2 : decode cX10_isBorne 2 = .ok (.iconst 0, 1) := by decide +kernel
theorem dX10_isBorne_3 : decode cX10_isBorne 3 = .ok (.istore_n 3, 1) := by decide +kernel
theorem dX10_isBorne_4 : decode cX10_isBorne 4 = .ok (.iload_n 3, 1) := by decide +kernel
theorem dX10_isBorne_5 : decode cX10_isBorne 5 = .ok (.aload_n 0, 1) := by decide +kernel
theorem dX10_isBorne_6 : decode cX10_isBorne 6 = .ok (.getfield 336, 3) := by decide +kernel
theorem dX10_isBorne_9 : decode cX10_isBorne 9 = .ok (.getfield 249, 3) := by decide +kernel
theorem dX10_isBorne_12 : decode cX10_isBorne 12 = .ok (.if_icmp .ge 48, 3) := by decide +kernel
theorem dX10_isBorne_15 : decode cX10_isBorne 15 = .ok (.iload_n 2, 1) := by decide +kernel
theorem dX10_isBorne_16 : decode cX10_isBorne 16 = .ok (.ifCond .ne 32, 3) := by decide +kernel
theorem dX10_isBorne_19 : decode cX10_isBorne 19 = .ok (.aload_n 0, 1) := by decide +kernel
theorem dX10_isBorne_20 : decode cX10_isBorne 20 = .ok (.getfield 336, 3) := by decide +kernel
theorem dX10_isBorne_23 : decode cX10_isBorne 23 = .ok (.getfield 254, 3) := by decide +kernel
theorem dX10_isBorne_26 : decode cX10_isBorne 26 = .ok (.iload_n 3, 1) := by decide +kernel
theorem dX10_isBorne_27 : decode cX10_isBorne 27 = .ok (.iaload, 1) := by decide +kernel
theorem dX10_isBorne_28 : decode cX10_isBorne 28 = .ok (.iload_n 1, 1) := by decide +kernel
theorem dX10_isBorne_29 : decode cX10_isBorne 29 = .ok (.if_icmp .ne 23, 3) := by decide +kernel
theorem dX10_isBorne_32 : decode cX10_isBorne 32 = .ok (.aload_n 0, 1) := by decide +kernel
theorem dX10_isBorne_33 : decode cX10_isBorne 33 = .ok (.getfield 336, 3) := by decide +kernel
theorem dX10_isBorne_36 : decode cX10_isBorne 36 = .ok (.getfield 257, 3) := by decide +kernel
theorem dX10_isBorne_39 : decode cX10_isBorne 39 = .ok (.iload_n 3, 1) := by decide +kernel
theorem dX10_isBorne_40 : decode cX10_isBorne 40 = .ok (.iaload, 1) := by decide +kernel
theorem dX10_isBorne_41 : decode cX10_isBorne 41 = .ok (.aload_n 0, 1) := by decide +kernel
theorem dX10_isBorne_42 : decode cX10_isBorne 42 = .ok (.getfield 359, 3) := by decide +kernel
theorem dX10_isBorne_45 : decode cX10_isBorne 45 = .ok (.if_icmp .lt 7, 3) := by decide +kernel
theorem dX10_isBorne_48 : decode cX10_isBorne 48 = .ok (.iconst 1, 1) := by decide +kernel
theorem dX10_isBorne_49 : decode cX10_isBorne 49 = .ok (.goto 4, 3) := by decide +kernel
theorem dX10_isBorne_52 : decode cX10_isBorne 52 = .ok (.iconst 0, 1) := by decide +kernel
theorem dX10_isBorne_53 : decode cX10_isBorne 53 = .ok (.istore_n 2, 1) := by decide +kernel
theorem dX10_isBorne_54 : decode cX10_isBorne 54 = .ok (.iinc 3 1, 3) := by decide +kernel
theorem dX10_isBorne_57 : decode cX10_isBorne 57 = .ok (.goto (-53), 3) := by decide +kernel
theorem dX10_isBorne_60 : decode cX10_isBorne 60 = .ok (.iload_n 2, 1) := by decide +kernel
theorem dX10_isBorne_61 : decode cX10_isBorne 61 = .ok (.ifCond .eq 15, 3) := by decide +kernel
theorem dX10_isBorne_64 : decode cX10_isBorne 64 = .ok (.aload_n 0, 1) := by decide +kernel
theorem dX10_isBorne_65 : decode cX10_isBorne 65 = .ok (.iload_n 1, 1) := by decide +kernel
theorem dX10_isBorne_66 : decode cX10_isBorne 66 = .ok (.invokevirtual 387, 3) := by decide +kernel
theorem dX10_isBorne_69 : decode cX10_isBorne 69 = .ok (.ifCond .eq 7, 3) := by decide +kernel
theorem dX10_isBorne_72 : decode cX10_isBorne 72 = .ok (.iconst 1, 1) := by decide +kernel
theorem dX10_isBorne_73 : decode cX10_isBorne 73 = .ok (.goto 4, 3) := by decide +kernel
theorem dX10_isBorne_76 : decode cX10_isBorne 76 = .ok (.iconst 0, 1) := by decide +kernel
theorem dX10_isBorne_77 : decode cX10_isBorne 77 = .ok (.ireturn, 1) := by decide +kernel
theorem dX10_isDigit_0 : decode cX10_isDigit 0 = .ok (.iload_n 0, 1) := by decide +kernel
theorem dX10_isDigit_1 : decode cX10_isDigit 1 = .ok (.bipush 48, 2) := by decide +kernel
theorem dX10_isDigit_3 : decode cX10_isDigit 3 = .ok (.if_icmp .lt 13, 3) := by decide +kernel
theorem dX10_isDigit_6 : decode cX10_isDigit 6 = .ok (.iload_n 0, 1) := by decide +kernel
theorem dX10_isDigit_7 : decode cX10_isDigit 7 = .ok (.bipush 57, 2) := by decide +kernel
theorem dX10_isDigit_9 : decode cX10_isDigit 9 = .ok (.if_icmp .gt 7, 3) := by decide +kernel
theorem dX10_isDigit_12 : decode cX10_isDigit 12 = .ok (.iconst 1, 1) := by decide +kernel
theorem dX10_isDigit_13 : decode cX10_isDigit 13 = .ok (.goto 4, 3) := by decide +kernel
theorem dX10_isDigit_16 : decode cX10_isDigit 16 = .ok (.iconst 0, 1) := by decide +kernel
theorem dX10_isDigit_17 : decode cX10_isDigit 17 = .ok (.ireturn, 1) := by decide +kernel
theorem dX10_isGate_0 : decode cX10_isGate 0 = .ok (.aload_n 0, 1) := by decide +kernel
theorem dX10_isGate_1 : decode cX10_isGate 1 = .ok (.getfield 336, 3) := by decide +kernel
theorem dX10_isGate_4 : decode cX10_isGate 4 = .ok (.ifnull 19, 3) := by decide +kernel
theorem dX10_isGate_7 : decode cX10_isGate 7 = .ok (.iload_n 1, 1) := by decide +kernel
theorem dX10_isGate_8 : decode cX10_isGate 8 = .ok (.ifCond .lt 15, 3) := by decide +kernel
theorem dX10_isGate_11 : decode cX10_isGate 11 = .ok (.iload_n 1, 1) := by decide +kernel
theorem dX10_isGate_12 : decode cX10_isGate 12 = .ok (.aload_n 0, 1) := by decide +kernel
theorem dX10_isGate_13 : decode cX10_isGate 13 = .ok (.getfield 339, 3) := by decide +kernel
theorem dX10_isGate_16 : decode cX10_isGate 16 = .ok (.if_icmp .ge 7, 3) := by decide +kernel
theorem dX10_isGate_19 : decode cX10_isGate 19 = .ok (.iconst 1, 1) := by decide +kernel
theorem dX10_isGate_20 : decode cX10_isGate 20 = .ok (.goto 4, 3) := by decide +kernel
theorem dX10_isGate_23 : decode cX10_isGate 23 = .ok (.iconst 0, 1) := by decide +kernel
theorem dX10_isGate_24 : decode cX10_isGate 24 = .ok (.ireturn, 1) := by decide +kernel
theorem dX10_isGood_0 : decode cX10_isGood 0 = .ok (.aload_n 0, 1) := by decide +kernel
theorem dX10_isGood_1 : decode cX10_isGood 1 = .ok (.getfield 336, 3) := by decide +kernel
theorem dX10_isGood_4 : decode cX10_isGood 4 = .ok (.ifnull 22, 3) := by decide +kernel
theorem dX10_isGood_7 : decode cX10_isGood 7 = .ok (.iload_n 1, 1) := by decide +kernel
theorem dX10_isGood_8 : decode cX10_isGood 8 = .ok (.ifCond .lt 18, 3) := by decide +kernel
theorem dX10_isGood_11 : decode cX10_isGood 11 = .ok (.iload_n 1, 1) := by decide +kernel
theorem dX10_isGood_12 : decode cX10_isGood 12 = .ok (.aload_n 0, 1) := by decide +kernel
theorem dX10_isGood_13 : decode cX10_isGood 13 = .ok (.getfield 336, 3) := by decide +kernel
theorem dX10_isGood_16 : decode cX10_isGood 16 = .ok (.getfield 271, 3) := by decide +kernel
theorem dX10_isGood_19 : decode cX10_isGood 19 = .ok (.if_icmp .ge 7, 3) := by decide +kernel
theorem dX10_isGood_22 : decode cX10_isGood 22 = .ok (.iconst 1, 1) := by decide +kernel
theorem dX10_isGood_23 : decode cX10_isGood 23 = .ok (.goto 4, 3) := by decide +kernel
theorem dX10_isGood_26 : decode cX10_isGood 26 = .ok (.iconst 0, 1) := by decide +kernel
theorem dX10_isGood_27 : decode cX10_isGood 27 = .ok (.ireturn, 1) := by decide +kernel
theorem dX10_isLetter_0 : decode cX10_isLetter 0 = .ok (.iload_n 0, 1) := by decide +kernel
theorem dX10_isLetter_1 : decode cX10_isLetter 1 = .ok (.bipush 97, 2) := by decide +kernel
theorem dX10_isLetter_3 : decode cX10_isLetter 3 = .ok (.if_icmp .lt 13, 3) := by decide +kernel
theorem dX10_isLetter_6 : decode cX10_isLetter 6 = .ok (.iload_n 0, 1) := by decide +kernel
theorem dX10_isLetter_7 : decode cX10_isLetter 7 = .ok (.bipush 122, 2) := by decide +kernel
theorem dX10_isLetter_9 : decode cX10_isLetter 9 = .ok (.if_icmp .gt 7, 3) := by decide +kernel
theorem dX10_isLetter_12 : decode cX10_isLetter 12 = .ok (.iconst 1, 1) := by decide +kernel
theorem dX10_isLetter_13 : decode cX10_isLetter 13 = .ok (.goto 4, 3) := by decide +kernel
theorem dX10_isLetter_16 : decode cX10_isLetter 16 = .ok (.iconst 0, 1) := by decide +kernel
theorem dX10_isLetter_17 : decode cX10_isLetter 17 = .ok (.ireturn, 1) := by decide +kernel
theorem dX10_isName_0 : decode cX10_isName 0 = .ok (.aload_n 0, 1) := by decide +kernel
theorem dX10_isName_1 : decode cX10_isName 1 = .ok (.getfield 89, 3) := by decide +kernel
theorem dX10_isName_4 : decode cX10_isName 4 = .ok (.iconst 2, 1) := by decide +kernel
theorem dX10_isName_5 : decode cX10_isName 5 = .ok (.if_icmp .ne 88, 3) := by decide +kernel
theorem dX10_isName_8 : decode cX10_isName 8 = .ok (.aload_n 0, 1) := by decide +kernel
theorem dX10_isName_9 : decode cX10_isName 9 = .ok (.ldc 154, 2) := by decide +kernel
theorem dX10_isName_11 : decode cX10_isName 11 = .ok (.invokevirtual 128, 3) := by decide +kernel
theorem dX10_isName_14 : decode cX10_isName 14 = .ok (.ifCond .ne 79, 3) := by decide +kernel
theorem dX10_isName_17 : decode cX10_isName 17 = .ok (.aload_n 0, 1) := by decide +kernel
theorem dX10_isName_18 : decode cX10_isName 18 = .ok (.ldc 156, 2) := by decide +kernel
theorem dX10_isName_20 : decode cX10_isName 20 = .ok (.invokevirtual 128, 3) := by decide +kernel
theorem dX10_isName_23 : decode cX10_isName 23 = .ok (.ifCond .ne 70, 3) := by decide +kernel
theorem dX10_isName_26 : decode cX10_isName 26 = .ok (.aload_n 0, 1) := by decide +kernel
theorem dX10_isName_27 : decode cX10_isName 27 = .ok (.ldc 157, 2) := by decide +kernel
theorem dX10_isName_29 : decode cX10_isName 29 = .ok (.invokevirtual 128, 3) := by decide +kernel
theorem dX10_isName_32 : decode cX10_isName 32 = .ok (.ifCond .ne 61, 3) := by decide +kernel
theorem dX10_isName_35 : decode cX10_isName 35 = .ok (.aload_n 0, 1) := by decide +kernel
theorem dX10_isName_36 : decode cX10_isName 36 = .ok (.ldc 159, 2) := by decide +kernel
theorem dX10_isName_38 : decode cX10_isName 38 = .ok (.invokevirtual 128, 3) := by decide +kernel
theorem dX10_isName_41 : decode cX10_isName 41 = .ok (.ifCond .ne 52, 3) := by decide +kernel
theorem dX10_isName_44 : decode cX10_isName 44 = .ok (.aload_n 0, 1) := by decide +kernel
theorem dX10_isName_45 : decode cX10_isName 45 = .ok (.ldc 161, 2) := by decide +kernel
theorem dX10_isName_47 : decode cX10_isName 47 = .ok (.invokevirtual 128, 3) := by decide +kernel
theorem dX10_isName_50 : decode cX10_isName 50 = .ok (.ifCond .ne 43, 3) := by decide +kernel
theorem dX10_isName_53 : decode cX10_isName 53 = .ok (.aload_n 0, 1) := by decide +kernel
theorem dX10_isName_54 : decode cX10_isName 54 = .ok (.ldc 162, 2) := by decide +kernel
theorem dX10_isName_56 : decode cX10_isName 56 = .ok (.invokevirtual 128, 3) := by decide +kernel
theorem dX10_isName_59 : decode cX10_isName 59 = .ok (.ifCond .ne 34, 3) := by decide +kernel
theorem dX10_isName_62 : decode cX10_isName 62 = .ok (.aload_n 0, 1) := by decide +kernel
theorem dX10_isName_63 : decode cX10_isName 63 = .ok (.ldc 164, 2) := by decide +kernel
theorem dX10_isName_65 : decode cX10_isName 65 = .ok (.invokevirtual 128, 3) := by decide +kernel
theorem dX10_isName_68 : decode cX10_isName 68 = .ok (.ifCond .ne 25, 3) := by decide +kernel
theorem dX10_isName_71 : decode cX10_isName 71 = .ok (.aload_n 0, 1) := by decide +kernel
theorem dX10_isName_72 : decode cX10_isName 72 = .ok (.ldc 166, 2) := by decide +kernel
theorem dX10_isName_74 : decode cX10_isName 74 = .ok (.invokevirtual 128, 3) := by decide +kernel
theorem dX10_isName_77 : decode cX10_isName 77 = .ok (.ifCond .ne 16, 3) := by decide +kernel
theorem dX10_isName_80 : decode cX10_isName 80 = .ok (.aload_n 0, 1) := by decide +kernel
theorem dX10_isName_81 : decode cX10_isName 81 = .ok (.ldc 168, 2) := by decide +kernel
theorem dX10_isName_83 : decode cX10_isName 83 = .ok (.invokevirtual 128, 3) := by decide +kernel
theorem dX10_isName_86 : decode cX10_isName 86 = .ok (.ifCond .ne 7, 3) := by decide +kernel
theorem dX10_isName_89 : decode cX10_isName 89 = .ok (.iconst 1, 1) := by decide +kernel
theorem dX10_isName_90 : decode cX10_isName 90 = .ok (.goto 4, 3) := by decide +kernel
theorem dX10_isName_93 : decode cX10_isName 93 = .ok (.iconst 0, 1) := by decide +kernel
theorem dX10_isName_94 : decode cX10_isName 94 = .ok (.ireturn, 1) := by decide +kernel
theorem dX10_isOrder_0 : decode cX10_isOrder 0 = .ok (.aload_n 0, 1) := by decide +kernel
theorem dX10_isOrder_1 : decode cX10_isOrder 1 = .ok (.getfield 336, 3) := by decide +kernel
theorem dX10_isOrder_4 : decode cX10_isOrder 4 = .ok (.ifnull 22, 3) := by decide +kernel
theorem dX10_isOrder_7 : decode cX10_isOrder 7 = .ok (.iload_n 1, 1) := by decide +kernel
theorem dX10_isOrder_8 : decode cX10_isOrder 8 = .ok (.ifCond .lt 18, 3) := by decide +kernel
theorem dX10_isOrder_11 : decode cX10_isOrder 11 = .ok (.iload_n 1, 1) := by decide +kernel
theorem dX10_isOrder_12 : decode cX10_isOrder 12 = .ok (.aload_n 0, 1) := by decide +kernel
theorem dX10_isOrder_13 : decode cX10_isOrder 13 = .ok (.getfield 336, 3) := by decide +kernel
theorem dX10_isOrder_16 : decode cX10_isOrder 16 = .ok (.getfield 296, 3) := by decide +kernel
theorem dX10_isOrder_19 : decode cX10_isOrder 19 = .ok (.if_icmp .ge 7, 3) := by decide +kernel
theorem dX10_isOrder_22 : decode cX10_isOrder 22 = .ok (.iconst 1, 1) := by decide +kernel
theorem dX10_isOrder_23 : decode cX10_isOrder 23 = .ok (.goto 4, 3) := by decide +kernel
theorem dX10_isOrder_26 : decode cX10_isOrder 26 = .ok (.iconst 0, 1) := by decide +kernel
theorem dX10_isOrder_27 : decode cX10_isOrder 27 = .ok (.ireturn, 1) := by decide +kernel
theorem dX10_isRing_0 : decode cX10_isRing 0 = .ok (.aload_n 0, 1) := by decide +kernel
theorem dX10_isRing_1 : decode cX10_isRing 1 = .ok (.getfield 336, 3) := by decide +kernel
theorem dX10_isRing_4 : decode cX10_isRing 4 = .ok (.ifnull 22, 3) := by decide +kernel
theorem dX10_isRing_7 : decode cX10_isRing 7 = .ok (.iload_n 1, 1) := by decide +kernel
theorem dX10_isRing_8 : decode cX10_isRing 8 = .ok (.ifCond .lt 18, 3) := by decide +kernel
theorem dX10_isRing_11 : decode cX10_isRing 11 = .ok (.iload_n 1, 1) := by decide +kernel
theorem dX10_isRing_12 : decode cX10_isRing 12 = .ok (.aload_n 0, 1) := by decide +kernel
theorem dX10_isRing_13 : decode cX10_isRing 13 = .ok (.getfield 336, 3) := by decide +kernel
theorem dX10_isRing_16 : decode cX10_isRing 16 = .ok (.getfield 174, 3) := by decide +kernel
theorem dX10_isRing_19 : decode cX10_isRing 19 = .ok (.if_icmp .ge 7, 3) := by decide +kernel
theorem dX10_isRing_22 : decode cX10_isRing 22 = .ok (.iconst 1, 1) := by decide +kernel
theorem dX10_isRing_23 : decode cX10_isRing 23 = .ok (.goto 4, 3) := by decide +kernel
theorem dX10_isRing_26 : decode cX10_isRing 26 = .ok (.iconst 0, 1) := by decide +kernel
theorem dX10_isRing_27 : decode cX10_isRing 27 = .ok (.ireturn, 1) := by decide +kernel
theorem dX10_isSize_0 : decode cX10_isSize 0 = .ok (.iload_n 0, 1) := by decide +kernel
theorem dX10_isSize_1 : decode cX10_isSize 1 = .ok (.iconst 1, 1) := by decide +kernel
theorem dX10_isSize_2 : decode cX10_isSize 2 = .ok (.bipush 99, 2) := by decide +kernel
theorem dX10_isSize_4 : decode cX10_isSize 4 = .ok (.invokestatic 139, 3) := by decide +kernel
theorem dX10_isSize_7 : decode cX10_isSize 7 = .ok (.ireturn, 1) := by decide +kernel
theorem dX10_isWord_0 : decode cX10_isWord 0 = .ok (.aload_n 0, 1) := by decide +kernel
theorem dX10_isWord_1 : decode cX10_isWord 1 = .ok (.getfield 89, 3) := by decide +kernel
theorem dX10_isWord_4 : decode cX10_isWord 4 = .ok (.iconst 2, 1) := by decide +kernel
theorem dX10_isWord_5 : decode cX10_isWord 5 = .ok (.if_icmp .ne 19, 3) := by decide +kernel
theorem dX10_isWord_8 : decode cX10_isWord 8 = .ok (.aload_n 0, 1) := by decide +kernel
theorem dX10_isWord_9 : decode cX10_isWord 9 = .ok (.getfield 108, 3) := by decide +kernel
theorem dX10_isWord_12 : decode cX10_isWord 12 = .ok (.aload_n 1, 1) := by decide +kernel
theorem dX10_isWord_13 : decode cX10_isWord 13 = .ok (.invokestatic 124, 3) := by decide +kernel
theorem dX10_isWord_16 : decode cX10_isWord 16 = .ok (.lcmp, 1) := by decide +kernel
theorem dX10_isWord_17 : decode cX10_isWord 17 = .ok (.ifCond .ne 7, 3) := by decide +kernel
theorem dX10_isWord_20 : decode cX10_isWord 20 = .ok (.iconst 1, 1) := by decide +kernel
theorem dX10_isWord_21 : decode cX10_isWord 21 = .ok (.goto 4, 3) := by decide +kernel
theorem dX10_isWord_24 : decode cX10_isWord 24 = .ok (.iconst 0, 1) := by decide +kernel
theorem dX10_isWord_25 : decode cX10_isWord 25 = .ok (.ireturn, 1) := by decide +kernel
theorem dX10_keeps_0 : decode cX10_keeps 0 = .ok (.bipush 77, 2) := by decide +kernel
theorem dX10_keeps_2 : decode cX10_keeps 2 = .ok (.istore_n 1, 1) := by decide +kernel
theorem dX10_keeps_3 : decode cX10_keeps 3 = .ok (.aload_n 0, 1) := by decide +kernel
theorem dX10_keeps_4 : decode cX10_keeps 4 = .ok (.getfield 340, 3) := by decide +kernel
theorem dX10_keeps_7 : decode cX10_keeps 7 = .ok (.bipush 10, 2) := by decide +kernel
theorem dX10_keeps_9 : decode cX10_keeps 9 = .ok (.if_icmp .ne 71, 3) := by decide +kernel
theorem dX10_keeps_12 : decode cX10_keeps 12 = .ok (.iconst 0, 1) := by decide +kernel
theorem dX10_keeps_13 : decode cX10_keeps 13 = .ok (.istore_n 2, 1) := by decide +kernel
theorem dX10_keeps_14 : decode cX10_keeps 14 = .ok (.iload_n 2, 1) := by decide +kernel
theorem dX10_keeps_15 : decode cX10_keeps 15 = .ok (.iload_n 1, 1) := by decide +kernel
theorem dX10_keeps_16 : decode cX10_keeps 16 = .ok (.bipush 9, 2) := by decide +kernel
theorem dX10_keeps_18 : decode cX10_keeps 18 = .ok (.imul, 1) := by decide +kernel
theorem dX10_keeps_19 : decode cX10_keeps 19 = .ok (.if_icmp .ge 23, 3) := by decide +kernel
theorem dX10_keeps_22 : decode cX10_keeps 22 = .ok (.aload_n 0, 1) := by decide +kernel
theorem dX10_keeps_23 : decode cX10_keeps 23 = .ok (.getfield 55, 3) := by decide +kernel
theorem dX10_keeps_26 : decode cX10_keeps 26 = .ok (.iload_n 2, 1) := by decide +kernel
theorem dX10_keeps_27 : decode cX10_keeps 27 = .ok (.aload_n 0, 1) := by decide +kernel
theorem dX10_keeps_28 : decode cX10_keeps 28 = .ok (.getfield 55, 3) := by decide +kernel
theorem dX10_keeps_31 : decode cX10_keeps 31 = .ok (.iload_n 2, 1) := by decide +kernel
theorem dX10_keeps_32 : decode cX10_keeps 32 = .ok (.iload_n 1, 1) := by decide +kernel
theorem dX10_keeps_33 : decode cX10_keeps 33 = .ok (.iadd, 1) := by decide +kernel
theorem dX10_keeps_34 : decode cX10_keeps 34 = .ok (.iaload, 1) := by decide +kernel
theorem dX10_keeps_35 : decode cX10_keeps 35 = .ok (.iastore, 1) := by decide +kernel
theorem dX10_keeps_36 : decode cX10_keeps 36 = .ok (.iinc 2 1, 3) := by decide +kernel
theorem dX10_keeps_39 : decode cX10_keeps 39 = .ok (.goto (-25), 3) := by decide +kernel
theorem dX10_keeps_42 : decode cX10_keeps 42 = .ok (.iconst 1, 1) := by decide +kernel
theorem dX10_keeps_43 : decode cX10_keeps 43 = .ok (.istore_n 2, 1) := by decide +kernel
theorem dX10_keeps_44 : decode cX10_keeps 44 = .ok (.iload_n 2, 1) := by decide +kernel
theorem dX10_keeps_45 : decode cX10_keeps 45 = .ok (.bipush 10, 2) := by decide +kernel
theorem dX10_keeps_47 : decode cX10_keeps 47 = .ok (.if_icmp .ge 23, 3) := by decide +kernel
theorem dX10_keeps_50 : decode cX10_keeps 50 = .ok (.aload_n 0, 1) := by decide +kernel
theorem dX10_keeps_51 : decode cX10_keeps 51 = .ok (.getfield 58, 3) := by decide +kernel
theorem dX10_keeps_54 : decode cX10_keeps 54 = .ok (.iload_n 2, 1) := by decide +kernel
theorem dX10_keeps_55 : decode cX10_keeps 55 = .ok (.iconst 1, 1) := by decide +kernel
theorem dX10_keeps_56 : decode cX10_keeps 56 = .ok (.isub, 1) := by decide +kernel
theorem dX10_keeps_57 : decode cX10_keeps 57 = .ok (.aload_n 0, 1) := by decide +kernel
theorem dX10_keeps_58 : decode cX10_keeps 58 = .ok (.getfield 58, 3) := by decide +kernel
theorem dX10_keeps_61 : decode cX10_keeps 61 = .ok (.iload_n 2, 1) := by decide +kernel
theorem dX10_keeps_62 : decode cX10_keeps 62 = .ok (.iaload, 1) := by decide +kernel
theorem dX10_keeps_63 : decode cX10_keeps 63 = .ok (.iastore, 1) := by decide +kernel
theorem dX10_keeps_64 : decode cX10_keeps 64 = .ok (.iinc 2 1, 3) := by decide +kernel
theorem dX10_keeps_67 : decode cX10_keeps 67 = .ok (.goto (-23), 3) := by decide +kernel
theorem dX10_keeps_70 : decode cX10_keeps 70 = .ok (.aload_n 0, 1) := by decide +kernel
theorem dX10_keeps_71 : decode cX10_keeps 71 = .ok (.dup, 1) := by decide +kernel
theorem dX10_keeps_72 : decode cX10_keeps 72 = .ok (.getfield 340, 3) := by decide +kernel
theorem dX10_keeps_75 : decode cX10_keeps 75 = .ok (.iconst 1, 1) := by decide +kernel
theorem dX10_keeps_76 : decode cX10_keeps 76 = .ok (.isub, 1) := by decide +kernel
theorem dX10_keeps_77 : decode cX10_keeps 77 = .ok (.putfield 340, 3) := by decide +kernel
theorem dX10_keeps_80 : decode cX10_keeps 80 = .ok (.iconst 0, 1) := by decide +kernel
theorem dX10_keeps_81 : decode cX10_keeps 81 = .ok (.istore_n 2, 1) := by decide +kernel
theorem dX10_keeps_82 : decode cX10_keeps 82 = .ok (.iload_n 2, 1) := by decide +kernel
theorem dX10_keeps_83 : decode cX10_keeps 83 = .ok (.iload_n 1, 1) := by decide +kernel
theorem dX10_keeps_84 : decode cX10_keeps 84 = .ok (.if_icmp .ge 28, 3) := by decide +kernel
theorem dX10_keeps_87 : decode cX10_keeps 87 = .ok (.aload_n 0, 1) := by decide +kernel
theorem dX10_keeps_88 : decode cX10_keeps 88 = .ok (.getfield 55, 3) := by decide +kernel
theorem dX10_keeps_91 : decode cX10_keeps 91 = .ok (.iload_n 1, 1) := by decide +kernel
theorem dX10_keeps_92 : decode cX10_keeps 92 = .ok (.aload_n 0, 1) := by decide +kernel
theorem dX10_keeps_93 : decode cX10_keeps 93 = .ok (.getfield 340, 3) := by decide +kernel
theorem dX10_keeps_96 : decode cX10_keeps 96 = .ok (.imul, 1) := by decide +kernel
theorem dX10_keeps_97 : decode cX10_keeps 97 = .ok (.iload_n 2, 1) := by decide +kernel
theorem dX10_keeps_98 : decode cX10_keeps 98 = .ok (.iadd, 1) := by decide +kernel
theorem dX10_keeps_99 : decode cX10_keeps 99 = .ok (.aload_n 0, 1) := by decide +kernel
theorem dX10_keeps_100 : decode cX10_keeps 100 = .ok (.getfield 17, 3) := by decide +kernel
theorem dX10_keeps_103 : decode cX10_keeps 103 = .ok (.iload_n 2, 1) := by decide +kernel
theorem dX10_keeps_104 : decode cX10_keeps 104 = .ok (.iaload, 1) := by decide +kernel
theorem dX10_keeps_105 : decode cX10_keeps 105 = .ok (.iastore, 1) := by decide +kernel
theorem dX10_keeps_106 : decode cX10_keeps 106 = .ok (.iinc 2 1, 3) := by decide +kernel
theorem dX10_keeps_109 : decode cX10_keeps 109 = .ok (.goto (-27), 3) := by decide +kernel
theorem dX10_keeps_112 : decode cX10_keeps 112 = .ok (.aload_n 0, 1) := by decide +kernel
theorem dX10_keeps_113 : decode cX10_keeps 113 = .ok (.getfield 58, 3) := by decide +kernel
theorem dX10_keeps_116 : decode cX10_keeps 116 = .ok (.aload_n 0, 1) := by decide +kernel
theorem dX10_keeps_117 : decode cX10_keeps 117 = .ok (.getfield 340, 3) := by decide +kernel
theorem dX10_keeps_120 : decode cX10_keeps 120 = .ok (.aload_n 0, 1) := by decide +kernel
theorem dX10_keeps_121 : decode cX10_keeps 121 = .ok (.getfield 339, 3) := by decide +kernel
theorem dX10_keeps_124 : decode cX10_keeps 124 = .ok (.iastore, 1) := by decide +kernel
theorem dX10_keeps_125 : decode cX10_keeps 125 = .ok (.aload_n 0, 1) := by decide +kernel
theorem dX10_keeps_126 : decode cX10_keeps 126 = .ok (.dup, 1) := by decide +kernel
theorem dX10_keeps_127 : decode cX10_keeps 127 = .ok (.getfield 340, 3) := by decide +kernel
theorem dX10_keeps_130 : decode cX10_keeps 130 = .ok (.iconst 1, 1) := by decide +kernel
theorem dX10_keeps_131 : decode cX10_keeps 131 = .ok (.iadd, 1) := by decide +kernel
theorem dX10_keeps_132 : decode cX10_keeps 132 = .ok (.putfield 340, 3) := by decide +kernel
theorem dX10_keeps_135 : decode cX10_keeps 135 = .ok (.return_, 1) := by decide +kernel
theorem dX10_led_0 : decode cX10_led 0 = .ok (.aload_n 0, 1) := by decide +kernel
theorem dX10_led_1 : decode cX10_led 1 = .ok (.iconst 0, 1) := by decide +kernel
theorem dX10_led_2 : decode cX10_led 2 = .ok (.putfield 61, 3) := by decide +kernel
theorem dX10_led_5 : decode cX10_led 5 = .ok (.iconst 0, 1) := by decide +kernel
theorem dX10_led_6 : decode cX10_led 6 = .ok (.istore_n 2, 1) := by decide +kernel
theorem dX10_led_7 : decode cX10_led 7 = .ok (.iconst 0, 1) := by decide +kernel
theorem dX10_led_8 : decode cX10_led 8 = .ok (.istore_n 3, 1) := by decide +kernel
theorem dX10_led_9 : decode cX10_led 9 = .ok (.aload_n 0, 1) := by decide +kernel
theorem dX10_led_10 : decode cX10_led 10 = .ok (.getfield 336, 3) := by decide +kernel
theorem dX10_led_13 : decode cX10_led 13 = .ok (.ifnull 41, 3) := by decide +kernel
theorem dX10_led_16 : decode cX10_led 16 = .ok (.iload_n 3, 1) := by decide +kernel
theorem dX10_led_17 : decode cX10_led 17 = .ok (.aload_n 0, 1) := by decide +kernel
theorem dX10_led_18 : decode cX10_led 18 = .ok (.getfield 336, 3) := by decide +kernel
theorem dX10_led_21 : decode cX10_led 21 = .ok (.getfield 296, 3) := by decide +kernel
theorem dX10_led_24 : decode cX10_led 24 = .ok (.if_icmp .ge 30, 3) := by decide +kernel
theorem dX10_led_27 : decode cX10_led 27 = .ok (.aload_n 0, 1) := by decide +kernel
theorem dX10_led_28 : decode cX10_led 28 = .ok (.iload_n 3, 1) := by decide +kernel
theorem dX10_led_29 : decode cX10_led 29 = .ok (.invokevirtual 459, 3) := by decide +kernel
theorem dX10_led_32 : decode cX10_led 32 = .ok (.ifCond .eq 6, 3) := by decide +kernel
theorem dX10_led_35 : decode cX10_led 35 = .ok (.goto 13, 3) := by decide +kernel
theorem dX10_led_38 : decode cX10_led 38 = .ok (.iload_n 2, 1) := by decide +kernel
theorem dX10_led_39 : decode cX10_led 39 = .ok (.iload_n 1, 1) := by decide +kernel
theorem dX10_led_40 : decode cX10_led 40 = .ok (.if_icmp .ne 5, 3) := by decide +kernel
theorem dX10_led_43 : decode cX10_led 43 = .ok (.iload_n 3, 1) := by decide +kernel
theorem dX10_led_44 : decode cX10_led 44 = .ok (.ireturn, 1) := by decide +kernel
theorem dX10_led_45 : decode cX10_led 45 = .ok (.iinc 2 1, 3) := by decide +kernel
theorem dX10_led_48 : decode cX10_led 48 = .ok (.iinc 3 1, 3) := by decide +kernel
theorem dX10_led_51 : decode cX10_led 51 = .ok (.goto (-42), 3) := by decide +kernel
theorem dX10_led_54 : decode cX10_led 54 = .ok (.aload_n 0, 1) := by decide +kernel
theorem dX10_led_55 : decode cX10_led 55 = .ok (.iconst 1, 1) := by decide +kernel
theorem dX10_led_56 : decode cX10_led 56 = .ok (.putfield 61, 3) := by decide +kernel
theorem dX10_led_59 : decode cX10_led 59 = .ok (.iconst 0, 1) := by decide +kernel
theorem dX10_led_60 : decode cX10_led 60 = .ok (.ireturn, 1) := by decide +kernel
theorem dX10_load_0 : decode cX10_load 0 = .ok (.aload_n 0, 1) := by decide +kernel
theorem dX10_load_1 : decode cX10_load 1 = .ok (.iconst 0, 1) := by decide +kernel
theorem dX10_load_2 : decode cX10_load 2 = .ok (.putfield 61, 3) := by decide +kernel
theorem dX10_load_5 : decode cX10_load 5 = .ok (.aload_n 0, 1) := by decide +kernel
theorem dX10_load_6 : decode cX10_load 6 = .ok (.getfield 336, 3) := by decide +kernel
theorem dX10_load_9 : decode cX10_load 9 = .ok (.ifnull 25, 3) := by decide +kernel
theorem dX10_load_12 : decode cX10_load 12 = .ok (.iload_n 1, 1) := by decide +kernel
theorem dX10_load_13 : decode cX10_load 13 = .ok (.ifCond .lt 21, 3) := by decide +kernel
theorem dX10_load_16 : decode cX10_load 16 = .ok (.iload_n 1, 1) := by decide +kernel
theorem dX10_load_17 : decode cX10_load 17 = .ok (.aload_n 0, 1) := by decide +kernel
theorem dX10_load_18 : decode cX10_load 18 = .ok (.getfield 471, 3) := by decide +kernel
theorem dX10_load_21 : decode cX10_load 21 = .ok (.if_icmp .ge 13, 3) := by decide +kernel
theorem dX10_load_24 : decode cX10_load 24 = .ok (.iload_n 2, 1) := by decide +kernel
theorem dX10_load_25 : decode cX10_load 25 = .ok (.iconst 0, 1) := by decide +kernel
theorem dX10_load_26 : decode cX10_load 26 = .ok (.bipush 7, 2) := by decide +kernel
theorem dX10_load_28 : decode cX10_load 28 = .ok (.invokestatic 139, 3) := by decide +kernel
theorem dX10_load_31 : decode cX10_load 31 = .ok (.ifCond .ne 9, 3) := by decide +kernel
theorem dX10_load_34 : decode cX10_load 34 = .ok (.aload_n 0, 1) := by decide +kernel
theorem dX10_load_35 : decode cX10_load 35 = .ok (.iconst 1, 1) := by decide +kernel
theorem dX10_load_36 : decode cX10_load 36 = .ok (.invokevirtual 67, 3) := by decide +kernel
theorem dX10_load_39 : decode cX10_load 39 = .ok (.ireturn, 1) := by decide +kernel
theorem dX10_load_40 : decode cX10_load 40 = .ok (.bipush 9, 2) := by decide +kernel
theorem dX10_load_42 : decode cX10_load 42 = .ok (.iload_n 1, 1) := by decide +kernel
theorem dX10_load_43 : decode cX10_load 43 = .ok (.imul, 1) := by decide +kernel
theorem dX10_load_44 : decode cX10_load 44 = .ok (.istore_n 3, 1) := by decide +kernel
theorem dX10_load_45 : decode cX10_load 45 = .ok (.iload_n 2, 1) := by decide +kernel
theorem dX10_load_46 : decode cX10_load 46 = .ok (.tableswitch 159 0 6 #[42, 53, 66, 79, 92, 133, 146], 42) := by decide +kernel
theorem dX10_load_88 : decode cX10_load 88 = .ok (.aload_n 0, 1) := by decide +kernel
theorem dX10_load_89 : decode cX10_load 89 = .ok (.aload_n 0, 1) := by decide +kernel
theorem dX10_load_90 : decode cX10_load 90 = .ok (.getfield 37, 3) := by decide +kernel
theorem dX10_load_93 : decode cX10_load 93 = .ok (.iload_n 1, 1) := by decide +kernel
theorem dX10_load_94 : decode cX10_load 94 = .ok (.iaload, 1) := by decide +kernel
theorem dX10_load_95 : decode cX10_load 95 = .ok (.invokevirtual 71, 3) := by decide +kernel
theorem dX10_load_98 : decode cX10_load 98 = .ok (.ireturn, 1) := by decide +kernel
theorem dX10_load_99 : decode cX10_load 99 = .ok (.aload_n 0, 1) := by decide +kernel
theorem dX10_load_100 : decode cX10_load 100 = .ok (.aload_n 0, 1) := by decide +kernel
theorem dX10_load_101 : decode cX10_load 101 = .ok (.getfield 31, 3) := by decide +kernel
theorem dX10_load_104 : decode cX10_load 104 = .ok (.iload_n 3, 1) := by decide +kernel
theorem dX10_load_105 : decode cX10_load 105 = .ok (.iconst 0, 1) := by decide +kernel
theorem dX10_load_106 : decode cX10_load 106 = .ok (.iadd, 1) := by decide +kernel
theorem dX10_load_107 : decode cX10_load 107 = .ok (.iaload, 1) := by decide +kernel
theorem dX10_load_108 : decode cX10_load 108 = .ok (.invokevirtual 71, 3) := by decide +kernel
theorem dX10_load_111 : decode cX10_load 111 = .ok (.ireturn, 1) := by decide +kernel
theorem dX10_load_112 : decode cX10_load 112 = .ok (.aload_n 0, 1) := by decide +kernel
theorem dX10_load_113 : decode cX10_load 113 = .ok (.aload_n 0, 1) := by decide +kernel
theorem dX10_load_114 : decode cX10_load 114 = .ok (.getfield 31, 3) := by decide +kernel
theorem dX10_load_117 : decode cX10_load 117 = .ok (.iload_n 3, 1) := by decide +kernel
theorem dX10_load_118 : decode cX10_load 118 = .ok (.iconst 1, 1) := by decide +kernel
theorem dX10_load_119 : decode cX10_load 119 = .ok (.iadd, 1) := by decide +kernel
theorem dX10_load_120 : decode cX10_load 120 = .ok (.iaload, 1) := by decide +kernel
theorem dX10_load_121 : decode cX10_load 121 = .ok (.invokevirtual 71, 3) := by decide +kernel
theorem dX10_load_124 : decode cX10_load 124 = .ok (.ireturn, 1) := by decide +kernel
theorem dX10_load_125 : decode cX10_load 125 = .ok (.aload_n 0, 1) := by decide +kernel
theorem dX10_load_126 : decode cX10_load 126 = .ok (.aload_n 0, 1) := by decide +kernel
theorem dX10_load_127 : decode cX10_load 127 = .ok (.getfield 31, 3) := by decide +kernel
theorem dX10_load_130 : decode cX10_load 130 = .ok (.iload_n 3, 1) := by decide +kernel
theorem dX10_load_131 : decode cX10_load 131 = .ok (.iconst 2, 1) := by decide +kernel
theorem dX10_load_132 : decode cX10_load 132 = .ok (.iadd, 1) := by decide +kernel
theorem dX10_load_133 : decode cX10_load 133 = .ok (.iaload, 1) := by decide +kernel
theorem dX10_load_134 : decode cX10_load 134 = .ok (.invokevirtual 71, 3) := by decide +kernel
theorem dX10_load_137 : decode cX10_load 137 = .ok (.ireturn, 1) := by decide +kernel
theorem dX10_load_138 : decode cX10_load 138 = .ok (.aload_n 0, 1) := by decide +kernel
theorem dX10_load_139 : decode cX10_load 139 = .ok (.aload_n 0, 1) := by decide +kernel
theorem dX10_load_140 : decode cX10_load 140 = .ok (.getfield 31, 3) := by decide +kernel
theorem dX10_load_143 : decode cX10_load 143 = .ok (.iload_n 3, 1) := by decide +kernel
theorem dX10_load_144 : decode cX10_load 144 = .ok (.iconst 2, 1) := by decide +kernel
theorem dX10_load_145 : decode cX10_load 145 = .ok (.iadd, 1) := by decide +kernel
theorem dX10_load_146 : decode cX10_load 146 = .ok (.iaload, 1) := by decide +kernel
theorem dX10_load_147 : decode cX10_load 147 = .ok (.iconst 2, 1) := by decide +kernel
theorem dX10_load_148 : decode cX10_load 148 = .ok (.if_icmp .eq 15, 3) := by decide +kernel
theorem dX10_load_151 : decode cX10_load 151 = .ok (.aload_n 0, 1) := by decide +kernel
theorem dX10_load_152 : decode cX10_load 152 = .ok (.getfield 31, 3) := by decide +kernel
theorem dX10_load_155 : decode cX10_load 155 = .ok (.iload_n 3, 1) := by decide +kernel
theorem dX10_load_156 : decode cX10_load 156 = .ok (.iconst 2, 1) := by decide +kernel
theorem dX10_load_157 : decode cX10_load 157 = .ok (.iadd, 1) := by decide +kernel
theorem dX10_load_158 : decode cX10_load 158 = .ok (.iaload, 1) := by decide +kernel
theorem dX10_load_159 : decode cX10_load 159 = .ok (.iconst 4, 1) := by decide +kernel
theorem dX10_load_160 : decode cX10_load 160 = .ok (.if_icmp .ne 14, 3) := by decide +kernel
theorem dX10_load_163 : decode cX10_load 163 = .ok (.aload_n 0, 1) := by decide +kernel
theorem dX10_load_164 : decode cX10_load 164 = .ok (.getfield 31, 3) := by decide +kernel
theorem dX10_load_167 : decode cX10_load 167 = .ok (.iload_n 3, 1) := by decide +kernel
theorem dX10_load_168 : decode cX10_load 168 = .ok (.iconst 3, 1) := by decide +kernel
theorem dX10_load_169 : decode cX10_load 169 = .ok (.iadd, 1) := by decide +kernel
theorem dX10_load_170 : decode cX10_load 170 = .ok (.iaload, 1) := by decide +kernel
theorem dX10_load_171 : decode cX10_load 171 = .ok (.goto 4, 3) := by decide +kernel
theorem dX10_load_174 : decode cX10_load 174 = .ok (.iconst 0, 1) := by decide +kernel
theorem dX10_load_175 : decode cX10_load 175 = .ok (.invokevirtual 71, 3) := by decide +kernel
theorem dX10_load_178 : decode cX10_load 178 = .ok (.ireturn, 1) := by decide +kernel
theorem dX10_load_179 : decode cX10_load 179 = .ok (.aload_n 0, 1) := by decide +kernel
theorem dX10_load_180 : decode cX10_load 180 = .ok (.aload_n 0, 1) := by decide +kernel
theorem dX10_load_181 : decode cX10_load 181 = .ok (.getfield 31, 3) := by decide +kernel
theorem dX10_load_184 : decode cX10_load 184 = .ok (.iload_n 3, 1) := by decide +kernel
theorem dX10_load_185 : decode cX10_load 185 = .ok (.iconst 4, 1) := by decide +kernel
theorem dX10_load_186 : decode cX10_load 186 = .ok (.iadd, 1) := by decide +kernel
theorem dX10_load_187 : decode cX10_load 187 = .ok (.iaload, 1) := by decide +kernel
theorem dX10_load_188 : decode cX10_load 188 = .ok (.invokevirtual 71, 3) := by decide +kernel
theorem dX10_load_191 : decode cX10_load 191 = .ok (.ireturn, 1) := by decide +kernel
theorem dX10_load_192 : decode cX10_load 192 = .ok (.aload_n 0, 1) := by decide +kernel
theorem dX10_load_193 : decode cX10_load 193 = .ok (.aload_n 0, 1) := by decide +kernel
theorem dX10_load_194 : decode cX10_load 194 = .ok (.getfield 31, 3) := by decide +kernel
theorem dX10_load_197 : decode cX10_load 197 = .ok (.iload_n 3, 1) := by decide +kernel
theorem dX10_load_198 : decode cX10_load 198 = .ok (.iconst 5, 1) := by decide +kernel
theorem dX10_load_199 : decode cX10_load 199 = .ok (.iadd, 1) := by decide +kernel
theorem dX10_load_200 : decode cX10_load 200 = .ok (.iaload, 1) := by decide +kernel
theorem dX10_load_201 : decode cX10_load 201 = .ok (.invokevirtual 71, 3) := by decide +kernel
theorem dX10_load_204 : decode cX10_load 204 = .ok (.ireturn, 1) := by decide +kernel
theorem dX10_load_205 : decode cX10_load 205 = .ok (.aload_n 0, 1) := by decide +kernel
theorem dX10_load_206 : decode cX10_load 206 = .ok (.aload_n 0, 1) := by decide +kernel
theorem dX10_load_207 : decode cX10_load 207 = .ok (.getfield 31, 3) := by decide +kernel
theorem dX10_load_210 : decode cX10_load 210 = .ok (.iload_n 3, 1) := by decide +kernel
theorem dX10_load_211 : decode cX10_load 211 = .ok (.bipush 6, 2) := by decide +kernel
theorem dX10_load_213 : decode cX10_load 213 = .ok (.iadd, 1) := by decide +kernel
theorem dX10_load_214 : decode cX10_load 214 = .ok (.iaload, 1) := by decide +kernel
theorem dX10_load_215 : decode cX10_load 215 = .ok (.invokevirtual 71, 3) := by decide +kernel
theorem dX10_load_218 : decode cX10_load 218 = .ok (.ireturn, 1) := by decide +kernel
theorem dX10_loads_0 : decode cX10_loads 0 = .ok (.aload_n 0, 1) := by decide +kernel
theorem dX10_loads_1 : decode cX10_loads 1 = .ok (.iconst 0, 1) := by decide +kernel
theorem dX10_loads_2 : decode cX10_loads 2 = .ok (.putfield 61, 3) := by decide +kernel
theorem dX10_loads_5 : decode cX10_loads 5 = .ok (.aload_n 0, 1) := by decide +kernel
theorem dX10_loads_6 : decode cX10_loads 6 = .ok (.getfield 336, 3) := by decide +kernel
theorem dX10_loads_9 : decode cX10_loads 9 = .ok (.ifnonnull 11, 3) := by decide +kernel
theorem dX10_loads_12 : decode cX10_loads 12 = .ok (.aload_n 0, 1) := by decide +kernel
theorem dX10_loads_13 : decode cX10_loads 13 = .ok (.iconst 1, 1) := by decide +kernel
theorem dX10_loads_14 : decode cX10_loads 14 = .ok (.invokevirtual 67, 3) := by decide +kernel
theorem dX10_loads_17 : decode cX10_loads 17 = .ok (.goto 11, 3) := by decide +kernel
theorem dX10_loads_20 : decode cX10_loads 20 = .ok (.aload_n 0, 1) := by decide +kernel
theorem dX10_loads_21 : decode cX10_loads 21 = .ok (.aload_n 0, 1) := by decide +kernel
theorem dX10_loads_22 : decode cX10_loads 22 = .ok (.getfield 471, 3) := by decide +kernel
theorem dX10_loads_25 : decode cX10_loads 25 = .ok (.invokevirtual 71, 3) := by decide +kernel
theorem dX10_loads_28 : decode cX10_loads 28 = .ok (.ireturn, 1) := by decide +kernel
theorem dX10_loadsOf_0 : decode cX10_loadsOf 0 = .ok (.aload_n 0, 1) := by decide +kernel
theorem dX10_loadsOf_1 : decode cX10_loadsOf 1 = .ok (.iconst 0, 1) := by decide +kernel
theorem dX10_loadsOf_2 : decode cX10_loadsOf 2 = .ok (.putfield 61, 3) := by decide +kernel
theorem dX10_loadsOf_5 : decode cX10_loadsOf 5 = .ok (.aload_n 0, 1) := by decide +kernel
theorem dX10_loadsOf_6 : decode cX10_loadsOf 6 = .ok (.iload_n 1, 1) := by decide +kernel
theorem dX10_loadsOf_7 : decode cX10_loadsOf 7 = .ok (.invokevirtual 456, 3) := by decide +kernel
theorem dX10_loadsOf_10 : decode cX10_loadsOf 10 = .ok (.ifCond .ne 9, 3) := by decide +kernel
theorem dX10_loadsOf_13 : decode cX10_loadsOf 13 = .ok (.aload_n 0, 1) := by decide +kernel
theorem dX10_loadsOf_14 : decode cX10_loadsOf 14 = .ok (.iconst 1, 1) := by decide +kernel
theorem dX10_loadsOf_15 : decode cX10_loadsOf 15 = .ok (.invokevirtual 67, 3) := by decide +kernel
theorem dX10_loadsOf_18 : decode cX10_loadsOf 18 = .ok (.ireturn, 1) := by decide +kernel
theorem dX10_loadsOf_19 : decode cX10_loadsOf 19 = .ok (.aload_n 0, 1) := by decide +kernel
theorem dX10_loadsOf_20 : decode cX10_loadsOf 20 = .ok (.iload_n 1, 1) := by decide +kernel
theorem dX10_loadsOf_21 : decode cX10_loadsOf 21 = .ok (.invokevirtual 459, 3) := by decide +kernel
theorem dX10_loadsOf_24 : decode cX10_loadsOf 24 = .ok (.ifCond .eq 15, 3) := by decide +kernel
theorem dX10_loadsOf_27 : decode cX10_loadsOf 27 = .ok (.aload_n 0, 1) := by decide +kernel
theorem dX10_loadsOf_28 : decode cX10_loadsOf 28 = .ok (.aload_n 0, 1) := by decide +kernel
theorem dX10_loadsOf_29 : decode cX10_loadsOf 29 = .ok (.iload_n 1, 1) := by decide +kernel
theorem dX10_loadsOf_30 : decode cX10_loadsOf 30 = .ok (.invokevirtual 462, 3) := by decide +kernel
theorem dX10_loadsOf_33 : decode cX10_loadsOf 33 = .ok (.invokevirtual 71, 3) := by decide +kernel
theorem dX10_loadsOf_36 : decode cX10_loadsOf 36 = .ok (.goto 9, 3) := by decide +kernel
theorem dX10_loadsOf_39 : decode cX10_loadsOf 39 = .ok (.aload_n 0, 1) := by decide +kernel
theorem dX10_loadsOf_40 : decode cX10_loadsOf 40 = .ok (.bipush 6, 2) := by decide +kernel
theorem dX10_loadsOf_42 : decode cX10_loadsOf 42 = .ok (.invokevirtual 67, 3) := by decide +kernel
theorem dX10_loadsOf_45 : decode cX10_loadsOf 45 = .ok (.ireturn, 1) := by decide +kernel
theorem dX10_longIn_0 : decode cX10_longIn 0 = .ok (.iload_n 1, 1) := by decide +kernel
theorem dX10_longIn_1 : decode cX10_longIn 1 = .ok (.iconst 2, 1) := by decide +kernel
theorem dX10_longIn_2 : decode cX10_longIn 2 = .ok (.if_icmp .ne 10, 3) := by decide +kernel
theorem dX10_longIn_5 : decode cX10_longIn 5 = .ok (.aload_n 0, 1) := by decide +kernel
theorem dX10_longIn_6 : decode cX10_longIn 6 = .ok (.getfield 364, 3) := by decide +kernel
theorem dX10_longIn_9 : decode cX10_longIn 9 = .ok (.goto 7, 3) := by decide +kernel
theorem dX10_longIn_12 : decode cX10_longIn 12 = .ok (.aload_n 0, 1) := by decide +kernel
theorem dX10_longIn_13 : decode cX10_longIn 13 = .ok (.getfield 357, 3) := by decide +kernel
theorem dX10_longIn_16 : decode cX10_longIn 16 = .ok (.ireturn, 1) := by decide +kernel
theorem dX10_lowers_0 : decode cX10_lowers 0 = .ok (.iload_n 2, 1) := by decide +kernel
theorem dX10_lowers_1 : decode cX10_lowers 1 = .ok (.aload_n 0, 1) := by decide +kernel
theorem dX10_lowers_2 : decode cX10_lowers 2 = .ok (.iload_n 1, 1) := by decide +kernel
theorem dX10_lowers_3 : decode cX10_lowers 3 = .ok (.iaload, 1) := by decide +kernel
theorem dX10_lowers_4 : decode cX10_lowers 4 = .ok (.if_icmp .lt 5, 3) := by decide +kernel
theorem dX10_lowers_7 : decode cX10_lowers 7 = .ok (.iconst 0, 1) := by decide +kernel
theorem dX10_lowers_8 : decode cX10_lowers 8 = .ok (.ireturn, 1) := by decide +kernel
theorem dX10_lowers_9 : decode cX10_lowers 9 = .ok (.aload_n 0, 1) := by decide +kernel
theorem dX10_lowers_10 : decode cX10_lowers 10 = .ok (.iload_n 1, 1) := by decide +kernel
theorem dX10_lowers_11 : decode cX10_lowers 11 = .ok (.iload_n 2, 1) := by decide +kernel
theorem dX10_lowers_12 : decode cX10_lowers 12 = .ok (.iastore, 1) := by decide +kernel
theorem dX10_lowers_13 : decode cX10_lowers 13 = .ok (.iconst 1, 1) := by decide +kernel
theorem dX10_lowers_14 : decode cX10_lowers 14 = .ok (.ireturn, 1) := by decide +kernel
theorem dX10_mark_0 : decode cX10_mark 0 = .ok (.aload_n 0, 1) := by decide +kernel
theorem dX10_mark_1 : decode cX10_mark 1 = .ok (.iconst 0, 1) := by decide +kernel
theorem dX10_mark_2 : decode cX10_mark 2 = .ok (.putfield 61, 3) := by decide +kernel
theorem dX10_mark_5 : decode cX10_mark 5 = .ok (.aload_n 0, 1) := by decide +kernel
theorem dX10_mark_6 : decode cX10_mark 6 = .ok (.getfield 336, 3) := by decide +kernel
theorem dX10_mark_9 : decode cX10_mark 9 = .ok (.ifnonnull 9, 3) := by decide +kernel
theorem dX10_mark_12 : decode cX10_mark 12 = .ok (.aload_n 0, 1) := by decide +kernel
theorem dX10_mark_13 : decode cX10_mark 13 = .ok (.iconst 1, 1) := by decide +kernel
theorem dX10_mark_14 : decode cX10_mark 14 = .ok (.invokevirtual 67, 3) := by decide +kernel
theorem dX10_mark_17 : decode cX10_mark 17 = .ok (.ireturn, 1) := by decide +kernel
theorem dX10_mark_18 : decode cX10_mark 18 = .ok (.aload_n 0, 1) := by decide +kernel
theorem dX10_mark_19 : decode cX10_mark 19 = .ok (.getfield 468, 3) := by decide +kernel
theorem dX10_mark_22 : decode cX10_mark 22 = .ok (.iconst 3, 1) := by decide +kernel
theorem dX10_mark_23 : decode cX10_mark 23 = .ok (.if_icmp .ne 9, 3) := by decide +kernel
theorem dX10_mark_26 : decode cX10_mark 26 = .ok (.aload_n 0, 1) := by decide +kernel
theorem dX10_mark_27 : decode cX10_mark 27 = .ok (.iconst 3, 1) := by decide +kernel
theorem dX10_mark_28 : decode cX10_mark 28 = .ok (.invokevirtual 67, 3) := by decide +kernel
theorem dX10_mark_31 : decode cX10_mark 31 = .ok (.ireturn, 1) := by decide +kernel
theorem dX10_mark_32 : decode cX10_mark 32 = .ok (.iconst 0, 1) := by decide +kernel
theorem dX10_mark_33 : decode cX10_mark 33 = .ok (.istore_n 1, 1) := by decide +kernel
theorem dX10_mark_34 : decode cX10_mark 34 = .ok (.iload_n 1, 1) := by decide +kernel
theorem dX10_mark_35 : decode cX10_mark 35 = .ok (.sipush 671, 3) := by decide +kernel
theorem dX10_mark_38 : decode cX10_mark 38 = .ok (.if_icmp .ge 30, 3) := by decide +kernel
theorem dX10_mark_41 : decode cX10_mark 41 = .ok (.aload_n 0, 1) := by decide +kernel
theorem dX10_mark_42 : decode cX10_mark 42 = .ok (.getfield 34, 3) := by decide +kernel
theorem dX10_mark_45 : decode cX10_mark 45 = .ok (.sipush 671, 3) := by decide +kernel
theorem dX10_mark_48 : decode cX10_mark 48 = .ok (.aload_n 0, 1) := by decide +kernel
theorem dX10_mark_49 : decode cX10_mark 49 = .ok (.getfield 468, 3) := by decide +kernel
theorem dX10_mark_52 : decode cX10_mark 52 = .ok (.imul, 1) := by decide +kernel
theorem dX10_mark_53 : decode cX10_mark 53 = .ok (.iload_n 1, 1) := by decide +kernel
theorem dX10_mark_54 : decode cX10_mark 54 = .ok (.iadd, 1) := by decide +kernel
theorem dX10_mark_55 : decode cX10_mark 55 = .ok (.aload_n 0, 1) := by decide +kernel
theorem dX10_mark_56 : decode cX10_mark 56 = .ok (.getfield 31, 3) := by decide +kernel
theorem dX10_mark_59 : decode cX10_mark 59 = .ok (.iload_n 1, 1) := by decide +kernel
theorem dX10_mark_60 : decode cX10_mark 60 = .ok (.iaload, 1) := by decide +kernel
theorem dX10_mark_61 : decode cX10_mark 61 = .ok (.iastore, 1) := by decide +kernel
theorem dX10_mark_62 : decode cX10_mark 62 = .ok (.iinc 1 1, 3) := by decide +kernel
theorem dX10_mark_65 : decode cX10_mark 65 = .ok (.goto (-31), 3) := by decide +kernel
theorem dX10_mark_68 : decode cX10_mark 68 = .ok (.aload_n 0, 1) := by decide +kernel
theorem dX10_mark_69 : decode cX10_mark 69 = .ok (.dup, 1) := by decide +kernel
theorem dX10_mark_70 : decode cX10_mark 70 = .ok (.getfield 468, 3) := by decide +kernel
theorem dX10_mark_73 : decode cX10_mark 73 = .ok (.iconst 1, 1) := by decide +kernel
theorem dX10_mark_74 : decode cX10_mark 74 = .ok (.iadd, 1) := by decide +kernel
theorem dX10_mark_75 : decode cX10_mark 75 = .ok (.putfield 468, 3) := by decide +kernel
theorem dX10_mark_78 : decode cX10_mark 78 = .ok (.aload_n 0, 1) := by decide +kernel
theorem dX10_mark_79 : decode cX10_mark 79 = .ok (.aload_n 0, 1) := by decide +kernel
theorem dX10_mark_80 : decode cX10_mark 80 = .ok (.getfield 468, 3) := by decide +kernel
theorem dX10_mark_83 : decode cX10_mark 83 = .ok (.iconst 1, 1) := by decide +kernel
theorem dX10_mark_84 : decode cX10_mark 84 = .ok (.isub, 1) := by decide +kernel
theorem dX10_mark_85 : decode cX10_mark 85 = .ok (.invokevirtual 71, 3) := by decide +kernel
theorem dX10_mark_88 : decode cX10_mark 88 = .ok (.ireturn, 1) := by decide +kernel
theorem dX10_meets_0 : decode cX10_meets 0 = .ok (.aload_n 0, 1) := by decide +kernel
theorem dX10_meets_1 : decode cX10_meets 1 = .ok (.getfield 336, 3) := by decide +kernel
theorem dX10_meets_4 : decode cX10_meets 4 = .ok (.getfield 210, 3) := by decide +kernel
theorem dX10_meets_7 : decode cX10_meets 7 = .ok (.aload_n 0, 1) := by decide +kernel
theorem dX10_meets_8 : decode cX10_meets 8 = .ok (.iload_n 1, 1) := by decide +kernel
theorem dX10_meets_9 : decode cX10_meets 9 = .ok (.iconst 0, 1) := by decide +kernel
theorem dX10_meets_10 : decode cX10_meets 10 = .ok (.invokevirtual 349, 3) := by decide +kernel
theorem dX10_meets_13 : decode cX10_meets 13 = .ok (.iaload, 1) := by decide +kernel
theorem dX10_meets_14 : decode cX10_meets 14 = .ok (.istore_n 3, 1) := by decide +kernel
theorem dX10_meets_15 : decode cX10_meets 15 = .ok (.aload_n 0, 1) := by decide +kernel
theorem dX10_meets_16 : decode cX10_meets 16 = .ok (.getfield 336, 3) := by decide +kernel
theorem dX10_meets_19 : decode cX10_meets 19 = .ok (.getfield 210, 3) := by decide +kernel
theorem dX10_meets_22 : decode cX10_meets 22 = .ok (.aload_n 0, 1) := by decide +kernel
theorem dX10_meets_23 : decode cX10_meets 23 = .ok (.iload_n 1, 1) := by decide +kernel
theorem dX10_meets_24 : decode cX10_meets 24 = .ok (.iconst 0, 1) := by decide +kernel
theorem dX10_meets_25 : decode cX10_meets 25 = .ok (.invokevirtual 349, 3) := by decide +kernel
theorem dX10_meets_28 : decode cX10_meets 28 = .ok (.iconst 1, 1) := by decide +kernel
theorem dX10_meets_29 : decode cX10_meets 29 = .ok (.iadd, 1) := by decide +kernel
theorem dX10_meets_30 : decode cX10_meets 30 = .ok (.iaload, 1) := by decide +kernel
theorem dX10_meets_31 : decode cX10_meets 31 = .ok (.istore 4, 2) := by decide +kernel
theorem dX10_meets_33 : decode cX10_meets 33 = .ok (.aload_n 0, 1) := by decide +kernel
theorem dX10_meets_34 : decode cX10_meets 34 = .ok (.iload_n 2, 1) := by decide +kernel
theorem dX10_meets_35 : decode cX10_meets 35 = .ok (.invokevirtual 369, 3) := by decide +kernel
theorem dX10_meets_38 : decode cX10_meets 38 = .ok (.iload_n 3, 1) := by decide +kernel
theorem dX10_meets_39 : decode cX10_meets 39 = .ok (.if_icmp .le 5, 3) := by decide +kernel
theorem dX10_meets_42 : decode cX10_meets 42 = .ok (.iconst 1, 1) := by decide +kernel
theorem dX10_meets_43 : decode cX10_meets 43 = .ok (.ireturn, 1) := by decide +kernel
theorem dX10_meets_44 : decode cX10_meets 44 = .ok (.aload_n 0, 1) := by decide +kernel
theorem dX10_meets_45 : decode cX10_meets 45 = .ok (.iload_n 2, 1) := by decide +kernel
theorem dX10_meets_46 : decode cX10_meets 46 = .ok (.invokevirtual 369, 3) := by decide +kernel
theorem dX10_meets_49 : decode cX10_meets 49 = .ok (.aload_n 0, 1) := by decide +kernel
theorem dX10_meets_50 : decode cX10_meets 50 = .ok (.iload_n 1, 1) := by decide +kernel
theorem dX10_meets_51 : decode cX10_meets 51 = .ok (.iconst 2, 1) := by decide +kernel
theorem dX10_meets_52 : decode cX10_meets 52 = .ok (.invokevirtual 349, 3) := by decide +kernel
theorem dX10_meets_55 : decode cX10_meets 55 = .ok (.if_icmp .le 5, 3) := by decide +kernel
theorem dX10_meets_58 : decode cX10_meets 58 = .ok (.iconst 2, 1) := by decide +kernel
theorem dX10_meets_59 : decode cX10_meets 59 = .ok (.ireturn, 1) := by decide +kernel
theorem dX10_meets_60 : decode cX10_meets 60 = .ok (.aload_n 0, 1) := by decide +kernel
theorem dX10_meets_61 : decode cX10_meets 61 = .ok (.iload_n 2, 1) := by decide +kernel
theorem dX10_meets_62 : decode cX10_meets 62 = .ok (.invokevirtual 372, 3) := by decide +kernel
theorem dX10_meets_65 : decode cX10_meets 65 = .ok (.aload_n 0, 1) := by decide +kernel
theorem dX10_meets_66 : decode cX10_meets 66 = .ok (.iload_n 1, 1) := by decide +kernel
theorem dX10_meets_67 : decode cX10_meets 67 = .ok (.iconst 3, 1) := by decide +kernel
theorem dX10_meets_68 : decode cX10_meets 68 = .ok (.invokevirtual 349, 3) := by decide +kernel
theorem dX10_meets_71 : decode cX10_meets 71 = .ok (.if_icmp .le 5, 3) := by decide +kernel
theorem dX10_meets_74 : decode cX10_meets 74 = .ok (.iconst 3, 1) := by decide +kernel
theorem dX10_meets_75 : decode cX10_meets 75 = .ok (.ireturn, 1) := by decide +kernel
theorem dX10_meets_76 : decode cX10_meets 76 = .ok (.aload_n 0, 1) := by decide +kernel
theorem dX10_meets_77 : decode cX10_meets 77 = .ok (.iload_n 2, 1) := by decide +kernel
theorem dX10_meets_78 : decode cX10_meets 78 = .ok (.invokevirtual 369, 3) := by decide +kernel
theorem dX10_meets_81 : decode cX10_meets 81 = .ok (.iload 4, 2) := by decide +kernel
theorem dX10_meets_83 : decode cX10_meets 83 = .ok (.if_icmp .le 5, 3) := by decide +kernel
theorem dX10_meets_86 : decode cX10_meets 86 = .ok (.iconst 4, 1) := by decide +kernel
theorem dX10_meets_87 : decode cX10_meets 87 = .ok (.ireturn, 1) := by decide +kernel
theorem dX10_meets_88 : decode cX10_meets 88 = .ok (.aload_n 0, 1) := by decide +kernel
theorem dX10_meets_89 : decode cX10_meets 89 = .ok (.iload_n 2, 1) := by decide +kernel
theorem dX10_meets_90 : decode cX10_meets 90 = .ok (.invokevirtual 375, 3) := by decide +kernel
theorem dX10_meets_93 : decode cX10_meets 93 = .ok (.aload_n 0, 1) := by decide +kernel
theorem dX10_meets_94 : decode cX10_meets 94 = .ok (.iload_n 2, 1) := by decide +kernel
theorem dX10_meets_95 : decode cX10_meets 95 = .ok (.invokevirtual 369, 3) := by decide +kernel
theorem dX10_meets_98 : decode cX10_meets 98 = .ok (.iadd, 1) := by decide +kernel
theorem dX10_meets_99 : decode cX10_meets 99 = .ok (.iload_n 3, 1) := by decide +kernel
theorem dX10_meets_100 : decode cX10_meets 100 = .ok (.aload_n 0, 1) := by decide +kernel
theorem dX10_meets_101 : decode cX10_meets 101 = .ok (.iload_n 1, 1) := by decide +kernel
theorem dX10_meets_102 : decode cX10_meets 102 = .ok (.iconst 2, 1) := by decide +kernel
theorem dX10_meets_103 : decode cX10_meets 103 = .ok (.invokevirtual 349, 3) := by decide +kernel
theorem dX10_meets_106 : decode cX10_meets 106 = .ok (.iadd, 1) := by decide +kernel
theorem dX10_meets_107 : decode cX10_meets 107 = .ok (.if_icmp .le 5, 3) := by decide +kernel
theorem dX10_meets_110 : decode cX10_meets 110 = .ok (.iconst 5, 1) := by decide +kernel
theorem dX10_meets_111 : decode cX10_meets 111 = .ok (.ireturn, 1) := by decide +kernel
theorem dX10_meets_112 : decode cX10_meets 112 = .ok (.aload_n 0, 1) := by decide +kernel
theorem dX10_meets_113 : decode cX10_meets 113 = .ok (.iload_n 2, 1) := by decide +kernel
theorem dX10_meets_114 : decode cX10_meets 114 = .ok (.invokevirtual 375, 3) := by decide +kernel
theorem dX10_meets_117 : decode cX10_meets 117 = .ok (.aload_n 0, 1) := by decide +kernel
theorem dX10_meets_118 : decode cX10_meets 118 = .ok (.iload_n 2, 1) := by decide +kernel
theorem dX10_meets_119 : decode cX10_meets 119 = .ok (.invokevirtual 369, 3) := by decide +kernel
theorem dX10_meets_122 : decode cX10_meets 122 = .ok (.iadd, 1) := by decide +kernel
theorem dX10_meets_123 : decode cX10_meets 123 = .ok (.iload 4, 2) := by decide +kernel
theorem dX10_meets_125 : decode cX10_meets 125 = .ok (.aload_n 0, 1) := by decide +kernel
theorem dX10_meets_126 : decode cX10_meets 126 = .ok (.iload_n 1, 1) := by decide +kernel
theorem dX10_meets_127 : decode cX10_meets 127 = .ok (.iconst 2, 1) := by decide +kernel
theorem dX10_meets_128 : decode cX10_meets 128 = .ok (.invokevirtual 349, 3) := by decide +kernel
theorem dX10_meets_131 : decode cX10_meets 131 = .ok (.iadd, 1) := by decide +kernel
theorem dX10_meets_132 : decode cX10_meets 132 = .ok (.if_icmp .le 8, 3) := by decide +kernel
theorem dX10_meets_135 : decode cX10_meets 135 = .ok (.bipush 6, 2) := by decide +kernel
theorem dX10_meets_137 : decode cX10_meets 137 = .ok (.goto 4, 3) := by decide +kernel
theorem dX10_meets_140 : decode cX10_meets 140 = .ok (.iconst 0, 1) := by decide +kernel
theorem dX10_meets_141 : decode cX10_meets 141 = .ok (.ireturn, 1) := by decide +kernel
theorem dX10_moves_0 : decode cX10_moves 0 = .ok (.bipush 9, 2) := by decide +kernel
theorem dX10_moves_2 : decode cX10_moves 2 = .ok (.iload_n 1, 1) := by decide +kernel
theorem dX10_moves_3 : decode cX10_moves 3 = .ok (.imul, 1) := by decide +kernel
theorem dX10_moves_4 : decode cX10_moves 4 = .ok (.istore_n 2, 1) := by decide +kernel
theorem dX10_moves_5 : decode cX10_moves 5 = .ok (.aload_n 0, 1) := by decide +kernel
theorem dX10_moves_6 : decode cX10_moves 6 = .ok (.getfield 31, 3) := by decide +kernel
theorem dX10_moves_9 : decode cX10_moves 9 = .ok (.iload_n 2, 1) := by decide +kernel
theorem dX10_moves_10 : decode cX10_moves 10 = .ok (.iconst 2, 1) := by decide +kernel
theorem dX10_moves_11 : decode cX10_moves 11 = .ok (.iadd, 1) := by decide +kernel
theorem dX10_moves_12 : decode cX10_moves 12 = .ok (.iaload, 1) := by decide +kernel
theorem dX10_moves_13 : decode cX10_moves 13 = .ok (.iconst 2, 1) := by decide +kernel
theorem dX10_moves_14 : decode cX10_moves 14 = .ok (.if_icmp .eq 16, 3) := by decide +kernel
theorem dX10_moves_17 : decode cX10_moves 17 = .ok (.aload_n 0, 1) := by decide +kernel
theorem dX10_moves_18 : decode cX10_moves 18 = .ok (.getfield 31, 3) := by decide +kernel
theorem dX10_moves_21 : decode cX10_moves 21 = .ok (.iload_n 2, 1) := by decide +kernel
theorem dX10_moves_22 : decode cX10_moves 22 = .ok (.iconst 2, 1) := by decide +kernel
theorem dX10_moves_23 : decode cX10_moves 23 = .ok (.iadd, 1) := by decide +kernel
theorem dX10_moves_24 : decode cX10_moves 24 = .ok (.iaload, 1) := by decide +kernel
theorem dX10_moves_25 : decode cX10_moves 25 = .ok (.iconst 4, 1) := by decide +kernel
theorem dX10_moves_26 : decode cX10_moves 26 = .ok (.if_icmp .eq 4, 3) := by decide +kernel
theorem dX10_moves_29 : decode cX10_moves 29 = .ok (.return_, 1) := by decide +kernel
theorem dX10_moves_30 : decode cX10_moves 30 = .ok (.aload_n 0, 1) := by decide +kernel
theorem dX10_moves_31 : decode cX10_moves 31 = .ok (.getfield 31, 3) := by decide +kernel
theorem dX10_moves_34 : decode cX10_moves 34 = .ok (.iload_n 2, 1) := by decide +kernel
theorem dX10_moves_35 : decode cX10_moves 35 = .ok (.iconst 3, 1) := by decide +kernel
theorem dX10_moves_36 : decode cX10_moves 36 = .ok (.iadd, 1) := by decide +kernel
theorem dX10_moves_37 : decode cX10_moves 37 = .ok (.dup2, 1) := by decide +kernel
theorem dX10_moves_38 : decode cX10_moves 38 = .ok (.iaload, 1) := by decide +kernel
theorem dX10_moves_39 : decode cX10_moves 39 = .ok (.iconst 1, 1) := by decide +kernel
theorem dX10_moves_40 : decode cX10_moves 40 = .ok (.isub, 1) := by decide +kernel
theorem dX10_moves_41 : decode cX10_moves 41 = .ok (.iastore, 1) := by decide +kernel
theorem dX10_moves_42 : decode cX10_moves 42 = .ok (.aload_n 0, 1) := by decide +kernel
theorem dX10_moves_43 : decode cX10_moves 43 = .ok (.getfield 31, 3) := by decide +kernel
theorem dX10_moves_46 : decode cX10_moves 46 = .ok (.iload_n 2, 1) := by decide +kernel
theorem dX10_moves_47 : decode cX10_moves 47 = .ok (.iconst 3, 1) := by decide +kernel
theorem dX10_moves_48 : decode cX10_moves 48 = .ok (.iadd, 1) := by decide +kernel
theorem dX10_moves_49 : decode cX10_moves 49 = .ok (.iaload, 1) := by decide +kernel
theorem dX10_moves_50 : decode cX10_moves 50 = .ok (.ifCond .le 4, 3) := by decide +kernel
theorem dX10_moves_53 : decode cX10_moves 53 = .ok (.return_, 1) := by decide +kernel
theorem dX10_moves_54 : decode cX10_moves 54 = .ok (.aload_n 0, 1) := by decide +kernel
theorem dX10_moves_55 : decode cX10_moves 55 = .ok (.getfield 31, 3) := by decide +kernel
theorem dX10_moves_58 : decode cX10_moves 58 = .ok (.iload_n 2, 1) := by decide +kernel
theorem dX10_moves_59 : decode cX10_moves 59 = .ok (.iconst 2, 1) := by decide +kernel
theorem dX10_moves_60 : decode cX10_moves 60 = .ok (.iadd, 1) := by decide +kernel
theorem dX10_moves_61 : decode cX10_moves 61 = .ok (.iaload, 1) := by decide +kernel
theorem dX10_moves_62 : decode cX10_moves 62 = .ok (.iconst 2, 1) := by decide +kernel
theorem dX10_moves_63 : decode cX10_moves 63 = .ok (.if_icmp .ne 32, 3) := by decide +kernel
theorem dX10_moves_66 : decode cX10_moves 66 = .ok (.aload_n 0, 1) := by decide +kernel
theorem dX10_moves_67 : decode cX10_moves 67 = .ok (.getfield 31, 3) := by decide +kernel
theorem dX10_moves_70 : decode cX10_moves 70 = .ok (.iload_n 2, 1) := by decide +kernel
theorem dX10_moves_71 : decode cX10_moves 71 = .ok (.iconst 5, 1) := by decide +kernel
theorem dX10_moves_72 : decode cX10_moves 72 = .ok (.iadd, 1) := by decide +kernel
theorem dX10_moves_73 : decode cX10_moves 73 = .ok (.bipush (-2), 2) := by decide +kernel
theorem dX10_moves_75 : decode cX10_moves 75 = .ok (.iastore, 1) := by decide +kernel
theorem dX10_moves_76 : decode cX10_moves 76 = .ok (.aload_n 0, 1) := by decide +kernel
theorem dX10_moves_77 : decode cX10_moves 77 = .ok (.getfield 31, 3) := by decide +kernel
theorem dX10_moves_80 : decode cX10_moves 80 = .ok (.iload_n 2, 1) := by decide +kernel
theorem dX10_moves_81 : decode cX10_moves 81 = .ok (.iconst 1, 1) := by decide +kernel
theorem dX10_moves_82 : decode cX10_moves 82 = .ok (.iadd, 1) := by decide +kernel
theorem dX10_moves_83 : decode cX10_moves 83 = .ok (.aload_n 0, 1) := by decide +kernel
theorem dX10_moves_84 : decode cX10_moves 84 = .ok (.iload_n 1, 1) := by decide +kernel
theorem dX10_moves_85 : decode cX10_moves 85 = .ok (.invokevirtual 480, 3) := by decide +kernel
theorem dX10_moves_88 : decode cX10_moves 88 = .ok (.iastore, 1) := by decide +kernel
theorem dX10_moves_89 : decode cX10_moves 89 = .ok (.aload_n 0, 1) := by decide +kernel
theorem dX10_moves_90 : decode cX10_moves 90 = .ok (.iload_n 1, 1) := by decide +kernel
theorem dX10_moves_91 : decode cX10_moves 91 = .ok (.invokevirtual 483, 3) := by decide +kernel
theorem dX10_moves_94 : decode cX10_moves 94 = .ok (.return_, 1) := by decide +kernel
theorem dX10_moves_95 : decode cX10_moves 95 = .ok (.aload_n 0, 1) := by decide +kernel
theorem dX10_moves_96 : decode cX10_moves 96 = .ok (.iload_n 1, 1) := by decide +kernel
theorem dX10_moves_97 : decode cX10_moves 97 = .ok (.invokevirtual 477, 3) := by decide +kernel
theorem dX10_moves_100 : decode cX10_moves 100 = .ok (.istore_n 3, 1) := by decide +kernel
theorem dX10_moves_101 : decode cX10_moves 101 = .ok (.aload_n 0, 1) := by decide +kernel
theorem dX10_moves_102 : decode cX10_moves 102 = .ok (.getfield 31, 3) := by decide +kernel
theorem dX10_moves_105 : decode cX10_moves 105 = .ok (.iload_n 2, 1) := by decide +kernel
theorem dX10_moves_106 : decode cX10_moves 106 = .ok (.iconst 0, 1) := by decide +kernel
theorem dX10_moves_107 : decode cX10_moves 107 = .ok (.iadd, 1) := by decide +kernel
theorem dX10_moves_108 : decode cX10_moves 108 = .ok (.aload_n 0, 1) := by decide +kernel
theorem dX10_moves_109 : decode cX10_moves 109 = .ok (.getfield 31, 3) := by decide +kernel
theorem dX10_moves_112 : decode cX10_moves 112 = .ok (.iload_n 2, 1) := by decide +kernel
theorem dX10_moves_113 : decode cX10_moves 113 = .ok (.iconst 0, 1) := by decide +kernel
theorem dX10_moves_114 : decode cX10_moves 114 = .ok (.iadd, 1) := by decide +kernel
theorem dX10_moves_115 : decode cX10_moves 115 = .ok (.iaload, 1) := by decide +kernel
theorem dX10_moves_116 : decode cX10_moves 116 = .ok (.aload_n 0, 1) := by decide +kernel
theorem dX10_moves_117 : decode cX10_moves 117 = .ok (.iload_n 3, 1) := by decide +kernel
theorem dX10_moves_118 : decode cX10_moves 118 = .ok (.iconst 0, 1) := by decide +kernel
theorem dX10_moves_119 : decode cX10_moves 119 = .ok (.invokevirtual 349, 3) := by decide +kernel
theorem dX10_moves_122 : decode cX10_moves 122 = .ok (.if_icmp .ne 14, 3) := by decide +kernel
theorem dX10_moves_125 : decode cX10_moves 125 = .ok (.aload_n 0, 1) := by decide +kernel
theorem dX10_moves_126 : decode cX10_moves 126 = .ok (.iload_n 3, 1) := by decide +kernel
theorem dX10_moves_127 : decode cX10_moves 127 = .ok (.iconst 0, 1) := by decide +kernel
theorem dX10_moves_128 : decode cX10_moves 128 = .ok (.invokevirtual 349, 3) := by decide +kernel
theorem dX10_moves_131 : decode cX10_moves 131 = .ok (.iconst 1, 1) := by decide +kernel
theorem dX10_moves_132 : decode cX10_moves 132 = .ok (.iadd, 1) := by decide +kernel
theorem dX10_moves_133 : decode cX10_moves 133 = .ok (.goto 9, 3) := by decide +kernel
theorem dX10_moves_136 : decode cX10_moves 136 = .ok (.aload_n 0, 1) := by decide +kernel
theorem dX10_moves_137 : decode cX10_moves 137 = .ok (.iload_n 3, 1) := by decide +kernel
theorem dX10_moves_138 : decode cX10_moves 138 = .ok (.iconst 0, 1) := by decide +kernel
theorem dX10_moves_139 : decode cX10_moves 139 = .ok (.invokevirtual 349, 3) := by decide +kernel
theorem dX10_moves_142 : decode cX10_moves 142 = .ok (.iastore, 1) := by decide +kernel
theorem dX10_moves_143 : decode cX10_moves 143 = .ok (.aload_n 0, 1) := by decide +kernel
theorem dX10_moves_144 : decode cX10_moves 144 = .ok (.getfield 31, 3) := by decide +kernel
theorem dX10_moves_147 : decode cX10_moves 147 = .ok (.iload_n 2, 1) := by decide +kernel
theorem dX10_moves_148 : decode cX10_moves 148 = .ok (.bipush 8, 2) := by decide +kernel
theorem dX10_moves_150 : decode cX10_moves 150 = .ok (.iadd, 1) := by decide +kernel
theorem dX10_moves_151 : decode cX10_moves 151 = .ok (.dup2, 1) := by decide +kernel
theorem dX10_moves_152 : decode cX10_moves 152 = .ok (.iaload, 1) := by decide +kernel
theorem dX10_moves_153 : decode cX10_moves 153 = .ok (.iconst 1, 1) := by decide +kernel
theorem dX10_moves_154 : decode cX10_moves 154 = .ok (.iadd, 1) := by decide +kernel
theorem dX10_moves_155 : decode cX10_moves 155 = .ok (.iastore, 1) := by decide +kernel
theorem dX10_moves_156 : decode cX10_moves 156 = .ok (.aload_n 0, 1) := by decide +kernel
theorem dX10_moves_157 : decode cX10_moves 157 = .ok (.getfield 31, 3) := by decide +kernel
theorem dX10_moves_160 : decode cX10_moves 160 = .ok (.iload_n 2, 1) := by decide +kernel
theorem dX10_moves_161 : decode cX10_moves 161 = .ok (.iconst 2, 1) := by decide +kernel
theorem dX10_moves_162 : decode cX10_moves 162 = .ok (.iadd, 1) := by decide +kernel
theorem dX10_moves_163 : decode cX10_moves 163 = .ok (.iconst 1, 1) := by decide +kernel
theorem dX10_moves_164 : decode cX10_moves 164 = .ok (.iastore, 1) := by decide +kernel
theorem dX10_moves_165 : decode cX10_moves 165 = .ok (.aload_n 0, 1) := by decide +kernel
theorem dX10_moves_166 : decode cX10_moves 166 = .ok (.iload_n 1, 1) := by decide +kernel
theorem dX10_moves_167 : decode cX10_moves 167 = .ok (.invokevirtual 474, 3) := by decide +kernel
theorem dX10_moves_170 : decode cX10_moves 170 = .ok (.ifCond .eq 24, 3) := by decide +kernel
theorem dX10_moves_173 : decode cX10_moves 173 = .ok (.aload_n 0, 1) := by decide +kernel
theorem dX10_moves_174 : decode cX10_moves 174 = .ok (.getfield 31, 3) := by decide +kernel
theorem dX10_moves_177 : decode cX10_moves 177 = .ok (.iload_n 2, 1) := by decide +kernel
theorem dX10_moves_178 : decode cX10_moves 178 = .ok (.iconst 1, 1) := by decide +kernel
theorem dX10_moves_179 : decode cX10_moves 179 = .ok (.iadd, 1) := by decide +kernel
theorem dX10_moves_180 : decode cX10_moves 180 = .ok (.iaload, 1) := by decide +kernel
theorem dX10_moves_181 : decode cX10_moves 181 = .ok (.aload_n 0, 1) := by decide +kernel
theorem dX10_moves_182 : decode cX10_moves 182 = .ok (.iload_n 1, 1) := by decide +kernel
theorem dX10_moves_183 : decode cX10_moves 183 = .ok (.invokevirtual 480, 3) := by decide +kernel
theorem dX10_moves_186 : decode cX10_moves 186 = .ok (.if_icmp .ne 8, 3) := by decide +kernel
theorem dX10_moves_189 : decode cX10_moves 189 = .ok (.aload_n 0, 1) := by decide +kernel
theorem dX10_moves_190 : decode cX10_moves 190 = .ok (.iload_n 1, 1) := by decide +kernel
theorem dX10_moves_191 : decode cX10_moves 191 = .ok (.invokevirtual 483, 3) := by decide +kernel
theorem dX10_moves_194 : decode cX10_moves 194 = .ok (.return_, 1) := by decide +kernel
theorem dX10_needs_0 : decode cX10_needs 0 = .ok (.aload_n 0, 1) := by decide +kernel
theorem dX10_needs_1 : decode cX10_needs 1 = .ok (.aload_n 1, 1) := by decide +kernel
theorem dX10_needs_2 : decode cX10_needs 2 = .ok (.invokevirtual 128, 3) := by decide +kernel
theorem dX10_needs_5 : decode cX10_needs 5 = .ok (.ifCond .ne 8, 3) := by decide +kernel
theorem dX10_needs_8 : decode cX10_needs 8 = .ok (.aload_n 0, 1) := by decide +kernel
theorem dX10_needs_9 : decode cX10_needs 9 = .ok (.iconst 1, 1) := by decide +kernel
theorem dX10_needs_10 : decode cX10_needs 10 = .ok (.invokevirtual 135, 3) := by decide +kernel
theorem dX10_needs_13 : decode cX10_needs 13 = .ok (.aload_n 0, 1) := by decide +kernel
theorem dX10_needs_14 : decode cX10_needs 14 = .ok (.invokevirtual 132, 3) := by decide +kernel
theorem dX10_needs_17 : decode cX10_needs 17 = .ok (.return_, 1) := by decide +kernel
theorem dX10_needsSign_0 : decode cX10_needsSign 0 = .ok (.aload_n 0, 1) := by decide +kernel
theorem dX10_needsSign_1 : decode cX10_needsSign 1 = .ok (.getfield 89, 3) := by decide +kernel
theorem dX10_needsSign_4 : decode cX10_needsSign 4 = .ok (.iconst 4, 1) := by decide +kernel
theorem dX10_needsSign_5 : decode cX10_needsSign 5 = .ok (.if_icmp .ne 11, 3) := by decide +kernel
theorem dX10_needsSign_8 : decode cX10_needsSign 8 = .ok (.aload_n 0, 1) := by decide +kernel
theorem dX10_needsSign_9 : decode cX10_needsSign 9 = .ok (.getfield 101, 3) := by decide +kernel
theorem dX10_needsSign_12 : decode cX10_needsSign 12 = .ok (.iload_n 1, 1) := by decide +kernel
theorem dX10_needsSign_13 : decode cX10_needsSign 13 = .ok (.if_icmp .eq 8, 3) := by decide +kernel
theorem dX10_needsSign_16 : decode cX10_needsSign 16 = .ok (.aload_n 0, 1) := by decide +kernel
theorem dX10_needsSign_17 : decode cX10_needsSign 17 = .ok (.iconst 1, 1) := by decide +kernel
theorem dX10_needsSign_18 : decode cX10_needsSign 18 = .ok (.invokevirtual 135, 3) := by decide +kernel
theorem dX10_needsSign_21 : decode cX10_needsSign 21 = .ok (.aload_n 0, 1) := by decide +kernel
theorem dX10_needsSign_22 : decode cX10_needsSign 22 = .ok (.invokevirtual 132, 3) := by decide +kernel
theorem dX10_needsSign_25 : decode cX10_needsSign 25 = .ok (.return_, 1) := by decide +kernel
theorem dX10_of_0 : decode cX10_of 0 = .ok (.aload_n 0, 1) := by decide +kernel
theorem dX10_of_1 : decode cX10_of 1 = .ok (.getfield 17, 3) := by decide +kernel
theorem dX10_of_4 : decode cX10_of 4 = .ok (.bipush 7, 2) := by decide +kernel
theorem dX10_of_6 : decode cX10_of 6 = .ok (.iload_n 1, 1) := by decide +kernel
theorem dX10_of_7 : decode cX10_of 7 = .ok (.imul, 1) := by decide +kernel
theorem dX10_of_8 : decode cX10_of 8 = .ok (.iload_n 2, 1) := by decide +kernel
theorem dX10_of_9 : decode cX10_of 9 = .ok (.iadd, 1) := by decide +kernel
theorem dX10_of_10 : decode cX10_of 10 = .ok (.iaload, 1) := by decide +kernel
theorem dX10_of_11 : decode cX10_of 11 = .ok (.ireturn, 1) := by decide +kernel
theorem dX10_on_0 : decode cX10_on 0 = .ok (.iconst 0, 1) := by decide +kernel
theorem dX10_on_1 : decode cX10_on 1 = .ok (.istore_n 2, 1) := by decide +kernel
theorem dX10_on_2 : decode cX10_on 2 = .ok (.iload_n 2, 1) := by decide +kernel
theorem dX10_on_3 : decode cX10_on 3 = .ok (.aload_n 0, 1) := by decide +kernel
theorem dX10_on_4 : decode cX10_on 4 = .ok (.getfield 471, 3) := by decide +kernel
theorem dX10_on_7 : decode cX10_on 7 = .ok (.if_icmp .ge 26, 3) := by decide +kernel
theorem dX10_on_10 : decode cX10_on 10 = .ok (.aload_n 0, 1) := by decide +kernel
theorem dX10_on_11 : decode cX10_on 11 = .ok (.getfield 31, 3) := by decide +kernel
theorem dX10_on_14 : decode cX10_on 14 = .ok (.bipush 9, 2) := by decide +kernel
theorem dX10_on_16 : decode cX10_on 16 = .ok (.iload_n 2, 1) := by decide +kernel
theorem dX10_on_17 : decode cX10_on 17 = .ok (.imul, 1) := by decide +kernel
theorem dX10_on_18 : decode cX10_on 18 = .ok (.iconst 5, 1) := by decide +kernel
theorem dX10_on_19 : decode cX10_on 19 = .ok (.iadd, 1) := by decide +kernel
theorem dX10_on_20 : decode cX10_on 20 = .ok (.iaload, 1) := by decide +kernel
theorem dX10_on_21 : decode cX10_on 21 = .ok (.iload_n 1, 1) := by decide +kernel
theorem dX10_on_22 : decode cX10_on 22 = .ok (.if_icmp .ne 5, 3) := by decide +kernel
theorem dX10_on_25 : decode cX10_on 25 = .ok (.iload_n 2, 1) := by decide +kernel
theorem dX10_on_26 : decode cX10_on 26 = .ok (.ireturn, 1) := by decide +kernel
theorem dX10_on_27 : decode cX10_on 27 = .ok (.iinc 2 1, 3) := by decide +kernel
theorem dX10_on_30 : decode cX10_on 30 = .ok (.goto (-28), 3) := by decide +kernel
theorem dX10_on_33 : decode cX10_on 33 = .ok (.bipush (-2), 2) := by decide +kernel
theorem dX10_on_35 : decode cX10_on 35 = .ok (.ireturn, 1) := by decide +kernel
theorem dX10_opens_0 : decode cX10_opens 0 = .ok (.aload_n 0, 1) := by decide +kernel
theorem dX10_opens_1 : decode cX10_opens 1 = .ok (.iload_n 1, 1) := by decide +kernel
theorem dX10_opens_2 : decode cX10_opens 2 = .ok (.invokevirtual 486, 3) := by decide +kernel
theorem dX10_opens_5 : decode cX10_opens 5 = .ok (.bipush (-2), 2) := by decide +kernel
theorem dX10_opens_7 : decode cX10_opens 7 = .ok (.if_icmp .eq 4, 3) := by decide +kernel
theorem dX10_opens_10 : decode cX10_opens 10 = .ok (.return_, 1) := by decide +kernel
theorem dX10_opens_11 : decode cX10_opens 11 = .ok (.iconst (-1), 1) := by decide +kernel
theorem dX10_opens_12 : decode cX10_opens 12 = .ok (.istore_n 2, 1) := by decide +kernel
theorem dX10_opens_13 : decode cX10_opens 13 = .ok (.iconst 0, 1) := by decide +kernel
theorem dX10_opens_14 : decode cX10_opens 14 = .ok (.istore_n 3, 1) := by decide +kernel
theorem dX10_opens_15 : decode cX10_opens 15 = .ok (.iload_n 3, 1) := by decide +kernel
theorem dX10_opens_16 : decode cX10_opens 16 = .ok (.aload_n 0, 1) := by decide +kernel
theorem dX10_opens_17 : decode cX10_opens 17 = .ok (.getfield 471, 3) := by decide +kernel
theorem dX10_opens_20 : decode cX10_opens 20 = .ok (.if_icmp .ge 67, 3) := by decide +kernel
theorem dX10_opens_23 : decode cX10_opens 23 = .ok (.aload_n 0, 1) := by decide +kernel
theorem dX10_opens_24 : decode cX10_opens 24 = .ok (.getfield 31, 3) := by decide +kernel
theorem dX10_opens_27 : decode cX10_opens 27 = .ok (.bipush 9, 2) := by decide +kernel
theorem dX10_opens_29 : decode cX10_opens 29 = .ok (.iload_n 3, 1) := by decide +kernel
theorem dX10_opens_30 : decode cX10_opens 30 = .ok (.imul, 1) := by decide +kernel
theorem dX10_opens_31 : decode cX10_opens 31 = .ok (.iconst 2, 1) := by decide +kernel
theorem dX10_opens_32 : decode cX10_opens 32 = .ok (.iadd, 1) := by decide +kernel
theorem dX10_opens_33 : decode cX10_opens 33 = .ok (.iaload, 1) := by decide +kernel
theorem dX10_opens_34 : decode cX10_opens 34 = .ok (.iconst 3, 1) := by decide +kernel
theorem dX10_opens_35 : decode cX10_opens 35 = .ok (.if_icmp .ne 46, 3) := by decide +kernel
theorem dX10_opens_38 : decode cX10_opens 38 = .ok (.aload_n 0, 1) := by decide +kernel
theorem dX10_opens_39 : decode cX10_opens 39 = .ok (.iload_n 3, 1) := by decide +kernel
theorem dX10_opens_40 : decode cX10_opens 40 = .ok (.invokevirtual 477, 3) := by decide +kernel
theorem dX10_opens_43 : decode cX10_opens 43 = .ok (.iload_n 1, 1) := by decide +kernel
theorem dX10_opens_44 : decode cX10_opens 44 = .ok (.if_icmp .ne 37, 3) := by decide +kernel
theorem dX10_opens_47 : decode cX10_opens 47 = .ok (.iload_n 2, 1) := by decide +kernel
theorem dX10_opens_48 : decode cX10_opens 48 = .ok (.iconst (-1), 1) := by decide +kernel
theorem dX10_opens_49 : decode cX10_opens 49 = .ok (.if_icmp .eq 30, 3) := by decide +kernel
theorem dX10_opens_52 : decode cX10_opens 52 = .ok (.aload_n 0, 1) := by decide +kernel
theorem dX10_opens_53 : decode cX10_opens 53 = .ok (.getfield 31, 3) := by decide +kernel
theorem dX10_opens_56 : decode cX10_opens 56 = .ok (.bipush 9, 2) := by decide +kernel
theorem dX10_opens_58 : decode cX10_opens 58 = .ok (.iload_n 3, 1) := by decide +kernel
theorem dX10_opens_59 : decode cX10_opens 59 = .ok (.imul, 1) := by decide +kernel
theorem dX10_opens_60 : decode cX10_opens 60 = .ok (.bipush 7, 2) := by decide +kernel
theorem dX10_opens_62 : decode cX10_opens 62 = .ok (.iadd, 1) := by decide +kernel
theorem dX10_opens_63 : decode cX10_opens 63 = .ok (.iaload, 1) := by decide +kernel
theorem dX10_opens_64 : decode cX10_opens 64 = .ok (.aload_n 0, 1) := by decide +kernel
theorem dX10_opens_65 : decode cX10_opens 65 = .ok (.getfield 31, 3) := by decide +kernel
theorem dX10_opens_68 : decode cX10_opens 68 = .ok (.bipush 9, 2) := by decide +kernel
theorem dX10_opens_70 : decode cX10_opens 70 = .ok (.iload_n 2, 1) := by decide +kernel
theorem dX10_opens_71 : decode cX10_opens 71 = .ok (.imul, 1) := by decide +kernel
theorem dX10_opens_72 : decode cX10_opens 72 = .ok (.bipush 7, 2) := by decide +kernel
theorem dX10_opens_74 : decode cX10_opens 74 = .ok (.iadd, 1) := by decide +kernel
theorem dX10_opens_75 : decode cX10_opens 75 = .ok (.iaload, 1) := by decide +kernel
theorem dX10_opens_76 : decode cX10_opens 76 = .ok (.if_icmp .ge 5, 3) := by decide +kernel
theorem dX10_opens_79 : decode cX10_opens 79 = .ok (.iload_n 3, 1) := by decide +kernel
theorem dX10_opens_80 : decode cX10_opens 80 = .ok (.istore_n 2, 1) := by decide +kernel
theorem dX10_opens_81 : decode cX10_opens 81 = .ok (.iinc 3 1, 3) := by decide +kernel
theorem dX10_opens_84 : decode cX10_opens 84 = .ok (.goto (-69), 3) := by decide +kernel
theorem dX10_opens_87 : decode cX10_opens 87 = .ok (.iload_n 2, 1) := by decide +kernel
theorem dX10_opens_88 : decode cX10_opens 88 = .ok (.iconst (-1), 1) := by decide +kernel
theorem dX10_opens_89 : decode cX10_opens 89 = .ok (.if_icmp .ne 4, 3) := by decide +kernel
theorem dX10_opens_92 : decode cX10_opens 92 = .ok (.return_, 1) := by decide +kernel
theorem dX10_opens_93 : decode cX10_opens 93 = .ok (.aload_n 0, 1) := by decide +kernel
theorem dX10_opens_94 : decode cX10_opens 94 = .ok (.getfield 40, 3) := by decide +kernel
theorem dX10_opens_97 : decode cX10_opens 97 = .ok (.iload_n 2, 1) := by decide +kernel
theorem dX10_opens_98 : decode cX10_opens 98 = .ok (.iaload, 1) := by decide +kernel
theorem dX10_opens_99 : decode cX10_opens 99 = .ok (.aload_n 0, 1) := by decide +kernel
theorem dX10_opens_100 : decode cX10_opens 100 = .ok (.iload_n 1, 1) := by decide +kernel
theorem dX10_opens_101 : decode cX10_opens 101 = .ok (.iconst 4, 1) := by decide +kernel
theorem dX10_opens_102 : decode cX10_opens 102 = .ok (.invokevirtual 349, 3) := by decide +kernel
theorem dX10_opens_105 : decode cX10_opens 105 = .ok (.invokestatic 354, 3) := by decide +kernel
theorem dX10_opens_108 : decode cX10_opens 108 = .ok (.istore_n 3, 1) := by decide +kernel
theorem dX10_opens_109 : decode cX10_opens 109 = .ok (.aload_n 0, 1) := by decide +kernel
theorem dX10_opens_110 : decode cX10_opens 110 = .ok (.getfield 31, 3) := by decide +kernel
theorem dX10_opens_113 : decode cX10_opens 113 = .ok (.bipush 9, 2) := by decide +kernel
theorem dX10_opens_115 : decode cX10_opens 115 = .ok (.iload_n 2, 1) := by decide +kernel
theorem dX10_opens_116 : decode cX10_opens 116 = .ok (.imul, 1) := by decide +kernel
theorem dX10_opens_117 : decode cX10_opens 117 = .ok (.iconst 2, 1) := by decide +kernel
theorem dX10_opens_118 : decode cX10_opens 118 = .ok (.iadd, 1) := by decide +kernel
theorem dX10_opens_119 : decode cX10_opens 119 = .ok (.iconst 4, 1) := by decide +kernel
theorem dX10_opens_120 : decode cX10_opens 120 = .ok (.iastore, 1) := by decide +kernel
theorem dX10_opens_121 : decode cX10_opens 121 = .ok (.aload_n 0, 1) := by decide +kernel
theorem dX10_opens_122 : decode cX10_opens 122 = .ok (.getfield 31, 3) := by decide +kernel
theorem dX10_opens_125 : decode cX10_opens 125 = .ok (.bipush 9, 2) := by decide +kernel
theorem dX10_opens_127 : decode cX10_opens 127 = .ok (.iload_n 2, 1) := by decide +kernel
theorem dX10_opens_128 : decode cX10_opens 128 = .ok (.imul, 1) := by decide +kernel
theorem dX10_opens_129 : decode cX10_opens 129 = .ok (.iconst 3, 1) := by decide +kernel
theorem dX10_opens_130 : decode cX10_opens 130 = .ok (.iadd, 1) := by decide +kernel
theorem dX10_opens_131 : decode cX10_opens 131 = .ok (.iload_n 3, 1) := by decide +kernel
theorem dX10_opens_132 : decode cX10_opens 132 = .ok (.iastore, 1) := by decide +kernel
theorem dX10_opens_133 : decode cX10_opens 133 = .ok (.aload_n 0, 1) := by decide +kernel
theorem dX10_opens_134 : decode cX10_opens 134 = .ok (.getfield 31, 3) := by decide +kernel
theorem dX10_opens_137 : decode cX10_opens 137 = .ok (.sipush 648, 3) := by decide +kernel
theorem dX10_opens_140 : decode cX10_opens 140 = .ok (.iload_n 1, 1) := by decide +kernel
theorem dX10_opens_141 : decode cX10_opens 141 = .ok (.iadd, 1) := by decide +kernel
theorem dX10_opens_142 : decode cX10_opens 142 = .ok (.dup2, 1) := by decide +kernel
theorem dX10_opens_143 : decode cX10_opens 143 = .ok (.iaload, 1) := by decide +kernel
theorem dX10_opens_144 : decode cX10_opens 144 = .ok (.aload_n 0, 1) := by decide +kernel
theorem dX10_opens_145 : decode cX10_opens 145 = .ok (.iload_n 1, 1) := by decide +kernel
theorem dX10_opens_146 : decode cX10_opens 146 = .ok (.iconst 5, 1) := by decide +kernel
theorem dX10_opens_147 : decode cX10_opens 147 = .ok (.invokevirtual 349, 3) := by decide +kernel
theorem dX10_opens_150 : decode cX10_opens 150 = .ok (.iadd, 1) := by decide +kernel
theorem dX10_opens_151 : decode cX10_opens 151 = .ok (.iastore, 1) := by decide +kernel
theorem dX10_opens_152 : decode cX10_opens 152 = .ok (.aload_n 0, 1) := by decide +kernel
theorem dX10_opens_153 : decode cX10_opens 153 = .ok (.getfield 31, 3) := by decide +kernel
theorem dX10_opens_156 : decode cX10_opens 156 = .ok (.sipush 659, 3) := by decide +kernel
theorem dX10_opens_159 : decode cX10_opens 159 = .ok (.iload_n 1, 1) := by decide +kernel
theorem dX10_opens_160 : decode cX10_opens 160 = .ok (.iadd, 1) := by decide +kernel
theorem dX10_opens_161 : decode cX10_opens 161 = .ok (.dup2, 1) := by decide +kernel
theorem dX10_opens_162 : decode cX10_opens 162 = .ok (.iaload, 1) := by decide +kernel
theorem dX10_opens_163 : decode cX10_opens 163 = .ok (.iload_n 3, 1) := by decide +kernel
theorem dX10_opens_164 : decode cX10_opens 164 = .ok (.aload_n 0, 1) := by decide +kernel
theorem dX10_opens_165 : decode cX10_opens 165 = .ok (.iload_n 1, 1) := by decide +kernel
theorem dX10_opens_166 : decode cX10_opens 166 = .ok (.iconst 4, 1) := by decide +kernel
theorem dX10_opens_167 : decode cX10_opens 167 = .ok (.invokevirtual 349, 3) := by decide +kernel
theorem dX10_opens_170 : decode cX10_opens 170 = .ok (.imul, 1) := by decide +kernel
theorem dX10_opens_171 : decode cX10_opens 171 = .ok (.iadd, 1) := by decide +kernel
theorem dX10_opens_172 : decode cX10_opens 172 = .ok (.iastore, 1) := by decide +kernel
theorem dX10_opens_173 : decode cX10_opens 173 = .ok (.return_, 1) := by decide +kernel
theorem dX10_pass_0 : decode cX10_pass 0 = .ok (.aload_n 0, 1) := by decide +kernel
theorem dX10_pass_1 : decode cX10_pass 1 = .ok (.iconst 0, 1) := by decide +kernel
theorem dX10_pass_2 : decode cX10_pass 2 = .ok (.putfield 61, 3) := by decide +kernel
theorem dX10_pass_5 : decode cX10_pass 5 = .ok (.aload_n 0, 1) := by decide +kernel
theorem dX10_pass_6 : decode cX10_pass 6 = .ok (.getfield 336, 3) := by decide +kernel
theorem dX10_pass_9 : decode cX10_pass 9 = .ok (.ifnonnull 9, 3) := by decide +kernel
theorem dX10_pass_12 : decode cX10_pass 12 = .ok (.aload_n 0, 1) := by decide +kernel
theorem dX10_pass_13 : decode cX10_pass 13 = .ok (.iconst 1, 1) := by decide +kernel
theorem dX10_pass_14 : decode cX10_pass 14 = .ok (.invokevirtual 67, 3) := by decide +kernel
theorem dX10_pass_17 : decode cX10_pass 17 = .ok (.ireturn, 1) := by decide +kernel
theorem dX10_pass_18 : decode cX10_pass 18 = .ok (.iload_n 1, 1) := by decide +kernel
theorem dX10_pass_19 : decode cX10_pass 19 = .ok (.iconst 1, 1) := by decide +kernel
theorem dX10_pass_20 : decode cX10_pass 20 = .ok (.bipush 60, 2) := by decide +kernel
theorem dX10_pass_22 : decode cX10_pass 22 = .ok (.invokestatic 139, 3) := by decide +kernel
theorem dX10_pass_25 : decode cX10_pass 25 = .ok (.ifCond .ne 9, 3) := by decide +kernel
theorem dX10_pass_28 : decode cX10_pass 28 = .ok (.aload_n 0, 1) := by decide +kernel
theorem dX10_pass_29 : decode cX10_pass 29 = .ok (.iconst 2, 1) := by decide +kernel
theorem dX10_pass_30 : decode cX10_pass 30 = .ok (.invokevirtual 67, 3) := by decide +kernel
theorem dX10_pass_33 : decode cX10_pass 33 = .ok (.ireturn, 1) := by decide +kernel
theorem dX10_pass_34 : decode cX10_pass 34 = .ok (.aload_n 0, 1) := by decide +kernel
theorem dX10_pass_35 : decode cX10_pass 35 = .ok (.getfield 31, 3) := by decide +kernel
theorem dX10_pass_38 : decode cX10_pass 38 = .ok (.sipush 670, 3) := by decide +kernel
theorem dX10_pass_41 : decode cX10_pass 41 = .ok (.iaload, 1) := by decide +kernel
theorem dX10_pass_42 : decode cX10_pass 42 = .ok (.iload_n 1, 1) := by decide +kernel
theorem dX10_pass_43 : decode cX10_pass 43 = .ok (.iadd, 1) := by decide +kernel
theorem dX10_pass_44 : decode cX10_pass 44 = .ok (.bipush 120, 2) := by decide +kernel
theorem dX10_pass_46 : decode cX10_pass 46 = .ok (.if_icmp .le 9, 3) := by decide +kernel
theorem dX10_pass_49 : decode cX10_pass 49 = .ok (.aload_n 0, 1) := by decide +kernel
theorem dX10_pass_50 : decode cX10_pass 50 = .ok (.iconst 3, 1) := by decide +kernel
theorem dX10_pass_51 : decode cX10_pass 51 = .ok (.invokevirtual 67, 3) := by decide +kernel
theorem dX10_pass_54 : decode cX10_pass 54 = .ok (.ireturn, 1) := by decide +kernel
theorem dX10_pass_55 : decode cX10_pass 55 = .ok (.iconst 0, 1) := by decide +kernel
theorem dX10_pass_56 : decode cX10_pass 56 = .ok (.istore_n 2, 1) := by decide +kernel
theorem dX10_pass_57 : decode cX10_pass 57 = .ok (.iload_n 2, 1) := by decide +kernel
theorem dX10_pass_58 : decode cX10_pass 58 = .ok (.iload_n 1, 1) := by decide +kernel
theorem dX10_pass_59 : decode cX10_pass 59 = .ok (.if_icmp .ge 13, 3) := by decide +kernel
theorem dX10_pass_62 : decode cX10_pass 62 = .ok (.aload_n 0, 1) := by decide +kernel
theorem dX10_pass_63 : decode cX10_pass 63 = .ok (.invokevirtual 501, 3) := by decide +kernel
theorem dX10_pass_66 : decode cX10_pass 66 = .ok (.iinc 2 1, 3) := by decide +kernel
theorem dX10_pass_69 : decode cX10_pass 69 = .ok (.goto (-12), 3) := by decide +kernel
theorem dX10_pass_72 : decode cX10_pass 72 = .ok (.aload_n 0, 1) := by decide +kernel
theorem dX10_pass_73 : decode cX10_pass 73 = .ok (.aload_n 0, 1) := by decide +kernel
theorem dX10_pass_74 : decode cX10_pass 74 = .ok (.getfield 31, 3) := by decide +kernel
theorem dX10_pass_77 : decode cX10_pass 77 = .ok (.sipush 670, 3) := by decide +kernel
theorem dX10_pass_80 : decode cX10_pass 80 = .ok (.iaload, 1) := by decide +kernel
theorem dX10_pass_81 : decode cX10_pass 81 = .ok (.invokevirtual 71, 3) := by decide +kernel
theorem dX10_pass_84 : decode cX10_pass 84 = .ok (.ireturn, 1) := by decide +kernel
theorem dX10_passes_0 : decode cX10_passes 0 = .ok (.iconst 0, 1) := by decide +kernel
theorem dX10_passes_1 : decode cX10_passes 1 = .ok (.istore_n 1, 1) := by decide +kernel
theorem dX10_passes_2 : decode cX10_passes 2 = .ok (.iload_n 1, 1) := by decide +kernel
theorem dX10_passes_3 : decode cX10_passes 3 = .ok (.aload_n 0, 1) := by decide +kernel
theorem dX10_passes_4 : decode cX10_passes 4 = .ok (.getfield 471, 3) := by decide +kernel
theorem dX10_passes_7 : decode cX10_passes 7 = .ok (.if_icmp .ge 14, 3) := by decide +kernel
theorem dX10_passes_10 : decode cX10_passes 10 = .ok (.aload_n 0, 1) := by decide +kernel
theorem dX10_passes_11 : decode cX10_passes 11 = .ok (.iload_n 1, 1) := by decide +kernel
theorem dX10_passes_12 : decode cX10_passes 12 = .ok (.invokevirtual 492, 3) := by decide +kernel
theorem dX10_passes_15 : decode cX10_passes 15 = .ok (.iinc 1 1, 3) := by decide +kernel
theorem dX10_passes_18 : decode cX10_passes 18 = .ok (.goto (-16), 3) := by decide +kernel
theorem dX10_passes_21 : decode cX10_passes 21 = .ok (.iconst 0, 1) := by decide +kernel
theorem dX10_passes_22 : decode cX10_passes 22 = .ok (.istore_n 1, 1) := by decide +kernel
theorem dX10_passes_23 : decode cX10_passes 23 = .ok (.iload_n 1, 1) := by decide +kernel
theorem dX10_passes_24 : decode cX10_passes 24 = .ok (.aload_n 0, 1) := by decide +kernel
theorem dX10_passes_25 : decode cX10_passes 25 = .ok (.getfield 339, 3) := by decide +kernel
theorem dX10_passes_28 : decode cX10_passes 28 = .ok (.if_icmp .ge 14, 3) := by decide +kernel
theorem dX10_passes_31 : decode cX10_passes 31 = .ok (.aload_n 0, 1) := by decide +kernel
theorem dX10_passes_32 : decode cX10_passes 32 = .ok (.iload_n 1, 1) := by decide +kernel
theorem dX10_passes_33 : decode cX10_passes 33 = .ok (.invokevirtual 495, 3) := by decide +kernel
theorem dX10_passes_36 : decode cX10_passes 36 = .ok (.iinc 1 1, 3) := by decide +kernel
theorem dX10_passes_39 : decode cX10_passes 39 = .ok (.goto (-16), 3) := by decide +kernel
theorem dX10_passes_42 : decode cX10_passes 42 = .ok (.iconst 0, 1) := by decide +kernel
theorem dX10_passes_43 : decode cX10_passes 43 = .ok (.istore_n 1, 1) := by decide +kernel
theorem dX10_passes_44 : decode cX10_passes 44 = .ok (.iload_n 1, 1) := by decide +kernel
theorem dX10_passes_45 : decode cX10_passes 45 = .ok (.aload_n 0, 1) := by decide +kernel
theorem dX10_passes_46 : decode cX10_passes 46 = .ok (.getfield 471, 3) := by decide +kernel
theorem dX10_passes_49 : decode cX10_passes 49 = .ok (.if_icmp .ge 60, 3) := by decide +kernel
theorem dX10_passes_52 : decode cX10_passes 52 = .ok (.aload_n 0, 1) := by decide +kernel
theorem dX10_passes_53 : decode cX10_passes 53 = .ok (.getfield 31, 3) := by decide +kernel
theorem dX10_passes_56 : decode cX10_passes 56 = .ok (.bipush 9, 2) := by decide +kernel
theorem dX10_passes_58 : decode cX10_passes 58 = .ok (.iload_n 1, 1) := by decide +kernel
theorem dX10_passes_59 : decode cX10_passes 59 = .ok (.imul, 1) := by decide +kernel
theorem dX10_passes_60 : decode cX10_passes 60 = .ok (.iconst 2, 1) := by decide +kernel
theorem dX10_passes_61 : decode cX10_passes 61 = .ok (.iadd, 1) := by decide +kernel
theorem dX10_passes_62 : decode cX10_passes 62 = .ok (.iaload, 1) := by decide +kernel
theorem dX10_passes_63 : decode cX10_passes 63 = .ok (.ifCond .ne 40, 3) := by decide +kernel
theorem dX10_passes_66 : decode cX10_passes 66 = .ok (.aload_n 0, 1) := by decide +kernel
theorem dX10_passes_67 : decode cX10_passes 67 = .ok (.getfield 336, 3) := by decide +kernel
theorem dX10_passes_70 : decode cX10_passes 70 = .ok (.getfield 327, 3) := by decide +kernel
theorem dX10_passes_73 : decode cX10_passes 73 = .ok (.aload_n 0, 1) := by decide +kernel
theorem dX10_passes_74 : decode cX10_passes 74 = .ok (.getfield 37, 3) := by decide +kernel
theorem dX10_passes_77 : decode cX10_passes 77 = .ok (.iload_n 1, 1) := by decide +kernel
theorem dX10_passes_78 : decode cX10_passes 78 = .ok (.iaload, 1) := by decide +kernel
theorem dX10_passes_79 : decode cX10_passes 79 = .ok (.iaload, 1) := by decide +kernel
theorem dX10_passes_80 : decode cX10_passes 80 = .ok (.aload_n 0, 1) := by decide +kernel
theorem dX10_passes_81 : decode cX10_passes 81 = .ok (.getfield 31, 3) := by decide +kernel
theorem dX10_passes_84 : decode cX10_passes 84 = .ok (.sipush 670, 3) := by decide +kernel
theorem dX10_passes_87 : decode cX10_passes 87 = .ok (.iaload, 1) := by decide +kernel
theorem dX10_passes_88 : decode cX10_passes 88 = .ok (.if_icmp .ne 15, 3) := by decide +kernel
theorem dX10_passes_91 : decode cX10_passes 91 = .ok (.aload_n 0, 1) := by decide +kernel
theorem dX10_passes_92 : decode cX10_passes 92 = .ok (.getfield 31, 3) := by decide +kernel
theorem dX10_passes_95 : decode cX10_passes 95 = .ok (.bipush 9, 2) := by decide +kernel
theorem dX10_passes_97 : decode cX10_passes 97 = .ok (.iload_n 1, 1) := by decide +kernel
theorem dX10_passes_98 : decode cX10_passes 98 = .ok (.imul, 1) := by decide +kernel
theorem dX10_passes_99 : decode cX10_passes 99 = .ok (.iconst 2, 1) := by decide +kernel
theorem dX10_passes_100 : decode cX10_passes 100 = .ok (.iadd, 1) := by decide +kernel
theorem dX10_passes_101 : decode cX10_passes 101 = .ok (.iconst 1, 1) := by decide +kernel
theorem dX10_passes_102 : decode cX10_passes 102 = .ok (.iastore, 1) := by decide +kernel
theorem dX10_passes_103 : decode cX10_passes 103 = .ok (.iinc 1 1, 3) := by decide +kernel
theorem dX10_passes_106 : decode cX10_passes 106 = .ok (.goto (-62), 3) := by decide +kernel
theorem dX10_passes_109 : decode cX10_passes 109 = .ok (.iconst 0, 1) := by decide +kernel
theorem dX10_passes_110 : decode cX10_passes 110 = .ok (.istore_n 1, 1) := by decide +kernel
theorem dX10_passes_111 : decode cX10_passes 111 = .ok (.iload_n 1, 1) := by decide +kernel
theorem dX10_passes_112 : decode cX10_passes 112 = .ok (.aload_n 0, 1) := by decide +kernel
theorem dX10_passes_113 : decode cX10_passes 113 = .ok (.getfield 471, 3) := by decide +kernel
theorem dX10_passes_116 : decode cX10_passes 116 = .ok (.if_icmp .ge 14, 3) := by decide +kernel
theorem dX10_passes_119 : decode cX10_passes 119 = .ok (.aload_n 0, 1) := by decide +kernel
theorem dX10_passes_120 : decode cX10_passes 120 = .ok (.iload_n 1, 1) := by decide +kernel
theorem dX10_passes_121 : decode cX10_passes 121 = .ok (.invokevirtual 498, 3) := by decide +kernel
theorem dX10_passes_124 : decode cX10_passes 124 = .ok (.iinc 1 1, 3) := by decide +kernel
theorem dX10_passes_127 : decode cX10_passes 127 = .ok (.goto (-16), 3) := by decide +kernel
theorem dX10_passes_130 : decode cX10_passes 130 = .ok (.iconst 0, 1) := by decide +kernel
theorem dX10_passes_131 : decode cX10_passes 131 = .ok (.istore_n 1, 1) := by decide +kernel
theorem dX10_passes_132 : decode cX10_passes 132 = .ok (.iload_n 1, 1) := by decide +kernel
theorem dX10_passes_133 : decode cX10_passes 133 = .ok (.aload_n 0, 1) := by decide +kernel
theorem dX10_passes_134 : decode cX10_passes 134 = .ok (.getfield 471, 3) := by decide +kernel
theorem dX10_passes_137 : decode cX10_passes 137 = .ok (.if_icmp .ge 58, 3) := by decide +kernel
theorem dX10_passes_140 : decode cX10_passes 140 = .ok (.aload_n 0, 1) := by decide +kernel
theorem dX10_passes_141 : decode cX10_passes 141 = .ok (.getfield 31, 3) := by decide +kernel
theorem dX10_passes_144 : decode cX10_passes 144 = .ok (.bipush 9, 2) := by decide +kernel
theorem dX10_passes_146 : decode cX10_passes 146 = .ok (.iload_n 1, 1) := by decide +kernel
theorem dX10_passes_147 : decode cX10_passes 147 = .ok (.imul, 1) := by decide +kernel
theorem dX10_passes_148 : decode cX10_passes 148 = .ok (.iconst 4, 1) := by decide +kernel
theorem dX10_passes_149 : decode cX10_passes 149 = .ok (.iadd, 1) := by decide +kernel
theorem dX10_passes_150 : decode cX10_passes 150 = .ok (.dup2, 1) := by decide +kernel
theorem dX10_passes_151 : decode cX10_passes 151 = .ok (.iaload, 1) := by decide +kernel
theorem dX10_passes_152 : decode cX10_passes 152 = .ok (.aload_n 0, 1) := by decide +kernel
theorem dX10_passes_153 : decode cX10_passes 153 = .ok (.getfield 31, 3) := by decide +kernel
theorem dX10_passes_156 : decode cX10_passes 156 = .ok (.bipush 9, 2) := by decide +kernel
theorem dX10_passes_158 : decode cX10_passes 158 = .ok (.iload_n 1, 1) := by decide +kernel
theorem dX10_passes_159 : decode cX10_passes 159 = .ok (.imul, 1) := by decide +kernel
theorem dX10_passes_160 : decode cX10_passes 160 = .ok (.iconst 2, 1) := by decide +kernel
theorem dX10_passes_161 : decode cX10_passes 161 = .ok (.iadd, 1) := by decide +kernel
theorem dX10_passes_162 : decode cX10_passes 162 = .ok (.iaload, 1) := by decide +kernel
theorem dX10_passes_163 : decode cX10_passes 163 = .ok (.iconst 1, 1) := by decide +kernel
theorem dX10_passes_164 : decode cX10_passes 164 = .ok (.if_icmp .eq 18, 3) := by decide +kernel
theorem dX10_passes_167 : decode cX10_passes 167 = .ok (.aload_n 0, 1) := by decide +kernel
theorem dX10_passes_168 : decode cX10_passes 168 = .ok (.getfield 31, 3) := by decide +kernel
theorem dX10_passes_171 : decode cX10_passes 171 = .ok (.bipush 9, 2) := by decide +kernel
theorem dX10_passes_173 : decode cX10_passes 173 = .ok (.iload_n 1, 1) := by decide +kernel
theorem dX10_passes_174 : decode cX10_passes 174 = .ok (.imul, 1) := by decide +kernel
theorem dX10_passes_175 : decode cX10_passes 175 = .ok (.iconst 2, 1) := by decide +kernel
theorem dX10_passes_176 : decode cX10_passes 176 = .ok (.iadd, 1) := by decide +kernel
theorem dX10_passes_177 : decode cX10_passes 177 = .ok (.iaload, 1) := by decide +kernel
theorem dX10_passes_178 : decode cX10_passes 178 = .ok (.iconst 3, 1) := by decide +kernel
theorem dX10_passes_179 : decode cX10_passes 179 = .ok (.if_icmp .ne 7, 3) := by decide +kernel
theorem dX10_passes_182 : decode cX10_passes 182 = .ok (.iconst 1, 1) := by decide +kernel
theorem dX10_passes_183 : decode cX10_passes 183 = .ok (.goto 4, 3) := by decide +kernel
theorem dX10_passes_186 : decode cX10_passes 186 = .ok (.iconst 0, 1) := by decide +kernel
theorem dX10_passes_187 : decode cX10_passes 187 = .ok (.iadd, 1) := by decide +kernel
theorem dX10_passes_188 : decode cX10_passes 188 = .ok (.iastore, 1) := by decide +kernel
theorem dX10_passes_189 : decode cX10_passes 189 = .ok (.iinc 1 1, 3) := by decide +kernel
theorem dX10_passes_192 : decode cX10_passes 192 = .ok (.goto (-60), 3) := by decide +kernel
theorem dX10_passes_195 : decode cX10_passes 195 = .ok (.aload_n 0, 1) := by decide +kernel
theorem dX10_passes_196 : decode cX10_passes 196 = .ok (.getfield 31, 3) := by decide +kernel
theorem dX10_passes_199 : decode cX10_passes 199 = .ok (.sipush 670, 3) := by decide +kernel
theorem dX10_passes_202 : decode cX10_passes 202 = .ok (.dup2, 1) := by decide +kernel
theorem dX10_passes_203 : decode cX10_passes 203 = .ok (.iaload, 1) := by decide +kernel
theorem dX10_passes_204 : decode cX10_passes 204 = .ok (.iconst 1, 1) := by decide +kernel
theorem dX10_passes_205 : decode cX10_passes 205 = .ok (.iadd, 1) := by decide +kernel
theorem dX10_passes_206 : decode cX10_passes 206 = .ok (.iastore, 1) := by decide +kernel
theorem dX10_passes_207 : decode cX10_passes 207 = .ok (.return_, 1) := by decide +kernel
theorem dX10_pay_0 : decode cX10_pay 0 = .ok (.aload_n 0, 1) := by decide +kernel
theorem dX10_pay_1 : decode cX10_pay 1 = .ok (.iconst 0, 1) := by decide +kernel
theorem dX10_pay_2 : decode cX10_pay 2 = .ok (.putfield 61, 3) := by decide +kernel
theorem dX10_pay_5 : decode cX10_pay 5 = .ok (.aload_n 0, 1) := by decide +kernel
theorem dX10_pay_6 : decode cX10_pay 6 = .ok (.iload_n 1, 1) := by decide +kernel
theorem dX10_pay_7 : decode cX10_pay 7 = .ok (.iload_n 2, 1) := by decide +kernel
theorem dX10_pay_8 : decode cX10_pay 8 = .ok (.iload_n 3, 1) := by decide +kernel
theorem dX10_pay_9 : decode cX10_pay 9 = .ok (.iload 4, 2) := by decide +kernel
theorem dX10_pay_11 : decode cX10_pay 11 = .ok (.iload 5, 2) := by decide +kernel
theorem dX10_pay_13 : decode cX10_pay 13 = .ok (.invokevirtual 449, 3) := by decide +kernel
theorem dX10_pay_16 : decode cX10_pay 16 = .ok (.ifCond .ne 9, 3) := by decide +kernel
theorem dX10_pay_19 : decode cX10_pay 19 = .ok (.aload_n 0, 1) := by decide +kernel
theorem dX10_pay_20 : decode cX10_pay 20 = .ok (.iconst 1, 1) := by decide +kernel
theorem dX10_pay_21 : decode cX10_pay 21 = .ok (.invokevirtual 67, 3) := by decide +kernel
theorem dX10_pay_24 : decode cX10_pay 24 = .ok (.ireturn, 1) := by decide +kernel
theorem dX10_pay_25 : decode cX10_pay 25 = .ok (.aload_n 0, 1) := by decide +kernel
theorem dX10_pay_26 : decode cX10_pay 26 = .ok (.aload_n 0, 1) := by decide +kernel
theorem dX10_pay_27 : decode cX10_pay 27 = .ok (.iload_n 1, 1) := by decide +kernel
theorem dX10_pay_28 : decode cX10_pay 28 = .ok (.iload_n 2, 1) := by decide +kernel
theorem dX10_pay_29 : decode cX10_pay 29 = .ok (.iload_n 3, 1) := by decide +kernel
theorem dX10_pay_30 : decode cX10_pay 30 = .ok (.iload 4, 2) := by decide +kernel
theorem dX10_pay_32 : decode cX10_pay 32 = .ok (.iload 5, 2) := by decide +kernel
theorem dX10_pay_34 : decode cX10_pay 34 = .ok (.invokevirtual 453, 3) := by decide +kernel
theorem dX10_pay_37 : decode cX10_pay 37 = .ok (.ifCond .eq 10, 3) := by decide +kernel
theorem dX10_pay_40 : decode cX10_pay 40 = .ok (.aload_n 0, 1) := by decide +kernel
theorem dX10_pay_41 : decode cX10_pay 41 = .ok (.getfield 432, 3) := by decide +kernel
theorem dX10_pay_44 : decode cX10_pay 44 = .ok (.goto 5, 3) := by decide +kernel
theorem dX10_pay_47 : decode cX10_pay 47 = .ok (.bipush (-2), 2) := by decide +kernel
theorem dX10_pay_49 : decode cX10_pay 49 = .ok (.invokevirtual 71, 3) := by decide +kernel
theorem dX10_pay_52 : decode cX10_pay 52 = .ok (.ireturn, 1) := by decide +kernel
theorem dX10_payOf_0 : decode cX10_payOf 0 = .ok (.aload_n 0, 1) := by decide +kernel
theorem dX10_payOf_1 : decode cX10_payOf 1 = .ok (.iconst 0, 1) := by decide +kernel
theorem dX10_payOf_2 : decode cX10_payOf 2 = .ok (.putfield 61, 3) := by decide +kernel
theorem dX10_payOf_5 : decode cX10_payOf 5 = .ok (.aload_n 0, 1) := by decide +kernel
theorem dX10_payOf_6 : decode cX10_payOf 6 = .ok (.iload_n 1, 1) := by decide +kernel
theorem dX10_payOf_7 : decode cX10_payOf 7 = .ok (.invokevirtual 456, 3) := by decide +kernel
theorem dX10_payOf_10 : decode cX10_payOf 10 = .ok (.ifCond .ne 9, 3) := by decide +kernel
theorem dX10_payOf_13 : decode cX10_payOf 13 = .ok (.aload_n 0, 1) := by decide +kernel
theorem dX10_payOf_14 : decode cX10_payOf 14 = .ok (.iconst 1, 1) := by decide +kernel
theorem dX10_payOf_15 : decode cX10_payOf 15 = .ok (.invokevirtual 67, 3) := by decide +kernel
theorem dX10_payOf_18 : decode cX10_payOf 18 = .ok (.ireturn, 1) := by decide +kernel
theorem dX10_payOf_19 : decode cX10_payOf 19 = .ok (.aload_n 0, 1) := by decide +kernel
theorem dX10_payOf_20 : decode cX10_payOf 20 = .ok (.aload_n 0, 1) := by decide +kernel
theorem dX10_payOf_21 : decode cX10_payOf 21 = .ok (.iload_n 1, 1) := by decide +kernel
theorem dX10_payOf_22 : decode cX10_payOf 22 = .ok (.invokevirtual 459, 3) := by decide +kernel
theorem dX10_payOf_25 : decode cX10_payOf 25 = .ok (.ifCond .eq 10, 3) := by decide +kernel
theorem dX10_payOf_28 : decode cX10_payOf 28 = .ok (.aload_n 0, 1) := by decide +kernel
theorem dX10_payOf_29 : decode cX10_payOf 29 = .ok (.getfield 432, 3) := by decide +kernel
theorem dX10_payOf_32 : decode cX10_payOf 32 = .ok (.goto 5, 3) := by decide +kernel
theorem dX10_payOf_35 : decode cX10_payOf 35 = .ok (.bipush (-2), 2) := by decide +kernel
theorem dX10_payOf_37 : decode cX10_payOf 37 = .ok (.invokevirtual 71, 3) := by decide +kernel
theorem dX10_payOf_40 : decode cX10_payOf 40 = .ok (.ireturn, 1) := by decide +kernel
theorem dX10_paysAt_0 : decode cX10_paysAt 0 = .ok (.aload_n 0, 1) := by decide +kernel
theorem dX10_paysAt_1 : decode cX10_paysAt 1 = .ok (.iload_n 1, 1) := by decide +kernel
theorem dX10_paysAt_2 : decode cX10_paysAt 2 = .ok (.iconst 5, 1) := by decide +kernel
theorem dX10_paysAt_3 : decode cX10_paysAt 3 = .ok (.invokevirtual 349, 3) := by decide +kernel
theorem dX10_paysAt_6 : decode cX10_paysAt 6 = .ok (.i2l, 1) := by decide +kernel
theorem dX10_paysAt_7 : decode cX10_paysAt 7 = .ok (.aload_n 0, 1) := by decide +kernel
theorem dX10_paysAt_8 : decode cX10_paysAt 8 = .ok (.iload_n 1, 1) := by decide +kernel
theorem dX10_paysAt_9 : decode cX10_paysAt 9 = .ok (.invokevirtual 412, 3) := by decide +kernel
theorem dX10_paysAt_12 : decode cX10_paysAt 12 = .ok (.i2l, 1) := by decide +kernel
theorem dX10_paysAt_13 : decode cX10_paysAt 13 = .ok (.aload_n 0, 1) := by decide +kernel
theorem dX10_paysAt_14 : decode cX10_paysAt 14 = .ok (.iload_n 1, 1) := by decide +kernel
theorem dX10_paysAt_15 : decode cX10_paysAt 15 = .ok (.iconst 4, 1) := by decide +kernel
theorem dX10_paysAt_16 : decode cX10_paysAt 16 = .ok (.invokevirtual 349, 3) := by decide +kernel
theorem dX10_paysAt_19 : decode cX10_paysAt 19 = .ok (.i2l, 1) := by decide +kernel
theorem dX10_paysAt_20 : decode cX10_paysAt 20 = .ok (.lmul, 1) := by decide +kernel
theorem dX10_paysAt_21 : decode cX10_paysAt 21 = .ok (.ladd, 1) := by decide +kernel
theorem dX10_paysAt_22 : decode cX10_paysAt 22 = .ok (.ldc2_w 415, 3) := by decide +kernel
theorem dX10_paysAt_25 : decode cX10_paysAt 25 = .ok (.lmul, 1) := by decide +kernel
theorem dX10_paysAt_26 : decode cX10_paysAt 26 = .ok (.aload_n 0, 1) := by decide +kernel
theorem dX10_paysAt_27 : decode cX10_paysAt 27 = .ok (.iload_n 1, 1) := by decide +kernel
theorem dX10_paysAt_28 : decode cX10_paysAt 28 = .ok (.invokevirtual 412, 3) := by decide +kernel
theorem dX10_paysAt_31 : decode cX10_paysAt 31 = .ok (.i2l, 1) := by decide +kernel
theorem dX10_paysAt_32 : decode cX10_paysAt 32 = .ok (.ladd, 1) := by decide +kernel
theorem dX10_paysAt_33 : decode cX10_paysAt 33 = .ok (.lreturn, 1) := by decide +kernel
theorem dX10_placeNext_0 : decode cX10_placeNext 0 = .ok (.aload_n 0, 1) := by decide +kernel
theorem dX10_placeNext_1 : decode cX10_placeNext 1 = .ok (.iload_n 1, 1) := by decide +kernel
theorem dX10_placeNext_2 : decode cX10_placeNext 2 = .ok (.invokevirtual 474, 3) := by decide +kernel
theorem dX10_placeNext_5 : decode cX10_placeNext 5 = .ok (.ifCond .eq 20, 3) := by decide +kernel
theorem dX10_placeNext_8 : decode cX10_placeNext 8 = .ok (.aload_n 0, 1) := by decide +kernel
theorem dX10_placeNext_9 : decode cX10_placeNext 9 = .ok (.getfield 336, 3) := by decide +kernel
theorem dX10_placeNext_12 : decode cX10_placeNext 12 = .ok (.getfield 324, 3) := by decide +kernel
theorem dX10_placeNext_15 : decode cX10_placeNext 15 = .ok (.aload_n 0, 1) := by decide +kernel
theorem dX10_placeNext_16 : decode cX10_placeNext 16 = .ok (.getfield 37, 3) := by decide +kernel
theorem dX10_placeNext_19 : decode cX10_placeNext 19 = .ok (.iload_n 1, 1) := by decide +kernel
theorem dX10_placeNext_20 : decode cX10_placeNext 20 = .ok (.iaload, 1) := by decide +kernel
theorem dX10_placeNext_21 : decode cX10_placeNext 21 = .ok (.iaload, 1) := by decide +kernel
theorem dX10_placeNext_22 : decode cX10_placeNext 22 = .ok (.goto 13, 3) := by decide +kernel
theorem dX10_placeNext_25 : decode cX10_placeNext 25 = .ok (.aload_n 0, 1) := by decide +kernel
theorem dX10_placeNext_26 : decode cX10_placeNext 26 = .ok (.aload_n 0, 1) := by decide +kernel
theorem dX10_placeNext_27 : decode cX10_placeNext 27 = .ok (.iload_n 1, 1) := by decide +kernel
theorem dX10_placeNext_28 : decode cX10_placeNext 28 = .ok (.invokevirtual 477, 3) := by decide +kernel
theorem dX10_placeNext_31 : decode cX10_placeNext 31 = .ok (.iconst 1, 1) := by decide +kernel
theorem dX10_placeNext_32 : decode cX10_placeNext 32 = .ok (.invokevirtual 349, 3) := by decide +kernel
theorem dX10_placeNext_35 : decode cX10_placeNext 35 = .ok (.ireturn, 1) := by decide +kernel
theorem dX10_ram_0 : decode cX10_ram 0 = .ok (.aload_n 0, 1) := by decide +kernel
theorem dX10_ram_1 : decode cX10_ram 1 = .ok (.iconst 0, 1) := by decide +kernel
theorem dX10_ram_2 : decode cX10_ram 2 = .ok (.putfield 61, 3) := by decide +kernel
theorem dX10_ram_5 : decode cX10_ram 5 = .ok (.aload_n 0, 1) := by decide +kernel
theorem dX10_ram_6 : decode cX10_ram 6 = .ok (.getfield 336, 3) := by decide +kernel
theorem dX10_ram_9 : decode cX10_ram 9 = .ok (.ifnonnull 9, 3) := by decide +kernel
theorem dX10_ram_12 : decode cX10_ram 12 = .ok (.aload_n 0, 1) := by decide +kernel
theorem dX10_ram_13 : decode cX10_ram 13 = .ok (.iconst 1, 1) := by decide +kernel
theorem dX10_ram_14 : decode cX10_ram 14 = .ok (.invokevirtual 67, 3) := by decide +kernel
theorem dX10_ram_17 : decode cX10_ram 17 = .ok (.ireturn, 1) := by decide +kernel
theorem dX10_ram_18 : decode cX10_ram 18 = .ok (.iload_n 1, 1) := by decide +kernel
theorem dX10_ram_19 : decode cX10_ram 19 = .ok (.invokestatic 510, 3) := by decide +kernel
theorem dX10_ram_22 : decode cX10_ram 22 = .ok (.ifCond .eq 31, 3) := by decide +kernel
theorem dX10_ram_25 : decode cX10_ram 25 = .ok (.iload_n 2, 1) := by decide +kernel
theorem dX10_ram_26 : decode cX10_ram 26 = .ok (.invokestatic 510, 3) := by decide +kernel
theorem dX10_ram_29 : decode cX10_ram 29 = .ok (.ifCond .eq 24, 3) := by decide +kernel
theorem dX10_ram_32 : decode cX10_ram 32 = .ok (.iload_n 3, 1) := by decide +kernel
theorem dX10_ram_33 : decode cX10_ram 33 = .ok (.invokestatic 510, 3) := by decide +kernel
theorem dX10_ram_36 : decode cX10_ram 36 = .ok (.ifCond .eq 17, 3) := by decide +kernel
theorem dX10_ram_39 : decode cX10_ram 39 = .ok (.aload_n 0, 1) := by decide +kernel
theorem dX10_ram_40 : decode cX10_ram 40 = .ok (.aload_n 0, 1) := by decide +kernel
theorem dX10_ram_41 : decode cX10_ram 41 = .ok (.iload_n 1, 1) := by decide +kernel
theorem dX10_ram_42 : decode cX10_ram 42 = .ok (.iload_n 2, 1) := by decide +kernel
theorem dX10_ram_43 : decode cX10_ram 43 = .ok (.iload_n 3, 1) := by decide +kernel
theorem dX10_ram_44 : decode cX10_ram 44 = .ok (.invokevirtual 517, 3) := by decide +kernel
theorem dX10_ram_47 : decode cX10_ram 47 = .ok (.invokevirtual 71, 3) := by decide +kernel
theorem dX10_ram_50 : decode cX10_ram 50 = .ok (.goto 8, 3) := by decide +kernel
theorem dX10_ram_53 : decode cX10_ram 53 = .ok (.aload_n 0, 1) := by decide +kernel
theorem dX10_ram_54 : decode cX10_ram 54 = .ok (.iconst 2, 1) := by decide +kernel
theorem dX10_ram_55 : decode cX10_ram 55 = .ok (.invokevirtual 67, 3) := by decide +kernel
theorem dX10_ram_58 : decode cX10_ram 58 = .ok (.ireturn, 1) := by decide +kernel
theorem dX10_ramBy_0 : decode cX10_ramBy 0 = .ok (.aload_n 0, 1) := by decide +kernel
theorem dX10_ramBy_1 : decode cX10_ramBy 1 = .ok (.iconst 0, 1) := by decide +kernel
theorem dX10_ramBy_2 : decode cX10_ramBy 2 = .ok (.putfield 61, 3) := by decide +kernel
theorem dX10_ramBy_5 : decode cX10_ramBy 5 = .ok (.aload_n 0, 1) := by decide +kernel
theorem dX10_ramBy_6 : decode cX10_ramBy 6 = .ok (.iload_n 1, 1) := by decide +kernel
theorem dX10_ramBy_7 : decode cX10_ramBy 7 = .ok (.invokevirtual 346, 3) := by decide +kernel
theorem dX10_ramBy_10 : decode cX10_ramBy 10 = .ok (.ifCond .ne 9, 3) := by decide +kernel
theorem dX10_ramBy_13 : decode cX10_ramBy 13 = .ok (.aload_n 0, 1) := by decide +kernel
theorem dX10_ramBy_14 : decode cX10_ramBy 14 = .ok (.iconst 1, 1) := by decide +kernel
theorem dX10_ramBy_15 : decode cX10_ramBy 15 = .ok (.invokevirtual 67, 3) := by decide +kernel
theorem dX10_ramBy_18 : decode cX10_ramBy 18 = .ok (.ireturn, 1) := by decide +kernel
theorem dX10_ramBy_19 : decode cX10_ramBy 19 = .ok (.iload_n 2, 1) := by decide +kernel
theorem dX10_ramBy_20 : decode cX10_ramBy 20 = .ok (.invokestatic 510, 3) := by decide +kernel
theorem dX10_ramBy_23 : decode cX10_ramBy 23 = .ok (.ifCond .eq 26, 3) := by decide +kernel
theorem dX10_ramBy_26 : decode cX10_ramBy 26 = .ok (.iload_n 3, 1) := by decide +kernel
theorem dX10_ramBy_27 : decode cX10_ramBy 27 = .ok (.invokestatic 510, 3) := by decide +kernel
theorem dX10_ramBy_30 : decode cX10_ramBy 30 = .ok (.ifCond .eq 19, 3) := by decide +kernel
theorem dX10_ramBy_33 : decode cX10_ramBy 33 = .ok (.iload 4, 2) := by decide +kernel
theorem dX10_ramBy_35 : decode cX10_ramBy 35 = .ok (.invokestatic 510, 3) := by decide +kernel
theorem dX10_ramBy_38 : decode cX10_ramBy 38 = .ok (.ifCond .eq 11, 3) := by decide +kernel
theorem dX10_ramBy_41 : decode cX10_ramBy 41 = .ok (.iload 5, 2) := by decide +kernel
theorem dX10_ramBy_43 : decode cX10_ramBy 43 = .ok (.invokestatic 510, 3) := by decide +kernel
theorem dX10_ramBy_46 : decode cX10_ramBy 46 = .ok (.ifCond .ne 9, 3) := by decide +kernel
theorem dX10_ramBy_49 : decode cX10_ramBy 49 = .ok (.aload_n 0, 1) := by decide +kernel
theorem dX10_ramBy_50 : decode cX10_ramBy 50 = .ok (.iconst 2, 1) := by decide +kernel
theorem dX10_ramBy_51 : decode cX10_ramBy 51 = .ok (.invokevirtual 67, 3) := by decide +kernel
theorem dX10_ramBy_54 : decode cX10_ramBy 54 = .ok (.ireturn, 1) := by decide +kernel
theorem dX10_ramBy_55 : decode cX10_ramBy 55 = .ok (.bipush 7, 2) := by decide +kernel
theorem dX10_ramBy_57 : decode cX10_ramBy 57 = .ok (.iload_n 1, 1) := by decide +kernel
theorem dX10_ramBy_58 : decode cX10_ramBy 58 = .ok (.imul, 1) := by decide +kernel
theorem dX10_ramBy_59 : decode cX10_ramBy 59 = .ok (.iconst 2, 1) := by decide +kernel
theorem dX10_ramBy_60 : decode cX10_ramBy 60 = .ok (.iadd, 1) := by decide +kernel
theorem dX10_ramBy_61 : decode cX10_ramBy 61 = .ok (.istore 6, 2) := by decide +kernel
theorem dX10_ramBy_63 : decode cX10_ramBy 63 = .ok (.aload_n 0, 1) := by decide +kernel
theorem dX10_ramBy_64 : decode cX10_ramBy 64 = .ok (.getfield 17, 3) := by decide +kernel
theorem dX10_ramBy_67 : decode cX10_ramBy 67 = .ok (.iload 6, 2) := by decide +kernel
theorem dX10_ramBy_69 : decode cX10_ramBy 69 = .ok (.iaload, 1) := by decide +kernel
theorem dX10_ramBy_70 : decode cX10_ramBy 70 = .ok (.istore 7, 2) := by decide +kernel
theorem dX10_ramBy_72 : decode cX10_ramBy 72 = .ok (.aload_n 0, 1) := by decide +kernel
theorem dX10_ramBy_73 : decode cX10_ramBy 73 = .ok (.getfield 17, 3) := by decide +kernel
theorem dX10_ramBy_76 : decode cX10_ramBy 76 = .ok (.iload 6, 2) := by decide +kernel
theorem dX10_ramBy_78 : decode cX10_ramBy 78 = .ok (.iload 5, 2) := by decide +kernel
theorem dX10_ramBy_80 : decode cX10_ramBy 80 = .ok (.iload 7, 2) := by decide +kernel
theorem dX10_ramBy_82 : decode cX10_ramBy 82 = .ok (.if_icmp .le 8, 3) := by decide +kernel
theorem dX10_ramBy_85 : decode cX10_ramBy 85 = .ok (.iload 5, 2) := by decide +kernel
theorem dX10_ramBy_87 : decode cX10_ramBy 87 = .ok (.goto 5, 3) := by decide +kernel
theorem dX10_ramBy_90 : decode cX10_ramBy 90 = .ok (.iload 7, 2) := by decide +kernel
theorem dX10_ramBy_92 : decode cX10_ramBy 92 = .ok (.iastore, 1) := by decide +kernel
theorem dX10_ramBy_93 : decode cX10_ramBy 93 = .ok (.aload_n 0, 1) := by decide +kernel
theorem dX10_ramBy_94 : decode cX10_ramBy 94 = .ok (.iload_n 2, 1) := by decide +kernel
theorem dX10_ramBy_95 : decode cX10_ramBy 95 = .ok (.iload_n 3, 1) := by decide +kernel
theorem dX10_ramBy_96 : decode cX10_ramBy 96 = .ok (.iload 4, 2) := by decide +kernel
theorem dX10_ramBy_98 : decode cX10_ramBy 98 = .ok (.invokevirtual 517, 3) := by decide +kernel
theorem dX10_ramBy_101 : decode cX10_ramBy 101 = .ok (.istore 8, 2) := by decide +kernel
theorem dX10_ramBy_103 : decode cX10_ramBy 103 = .ok (.aload_n 0, 1) := by decide +kernel
theorem dX10_ramBy_104 : decode cX10_ramBy 104 = .ok (.getfield 17, 3) := by decide +kernel
theorem dX10_ramBy_107 : decode cX10_ramBy 107 = .ok (.iload 6, 2) := by decide +kernel
theorem dX10_ramBy_109 : decode cX10_ramBy 109 = .ok (.iload 7, 2) := by decide +kernel
theorem dX10_ramBy_111 : decode cX10_ramBy 111 = .ok (.iastore, 1) := by decide +kernel
theorem dX10_ramBy_112 : decode cX10_ramBy 112 = .ok (.aload_n 0, 1) := by decide +kernel
theorem dX10_ramBy_113 : decode cX10_ramBy 113 = .ok (.iload 8, 2) := by decide +kernel
theorem dX10_ramBy_115 : decode cX10_ramBy 115 = .ok (.invokevirtual 71, 3) := by decide +kernel
theorem dX10_ramBy_118 : decode cX10_ramBy 118 = .ok (.ireturn, 1) := by decide +kernel
theorem dX10_ramNow_0 : decode cX10_ramNow 0 = .ok (.aload_n 0, 1) := by decide +kernel
theorem dX10_ramNow_1 : decode cX10_ramNow 1 = .ok (.iload_n 1, 1) := by decide +kernel
theorem dX10_ramNow_2 : decode cX10_ramNow 2 = .ok (.putfield 357, 3) := by decide +kernel
theorem dX10_ramNow_5 : decode cX10_ramNow 5 = .ok (.aload_n 0, 1) := by decide +kernel
theorem dX10_ramNow_6 : decode cX10_ramNow 6 = .ok (.iload_n 2, 1) := by decide +kernel
theorem dX10_ramNow_7 : decode cX10_ramNow 7 = .ok (.putfield 362, 3) := by decide +kernel
theorem dX10_ramNow_10 : decode cX10_ramNow 10 = .ok (.aload_n 0, 1) := by decide +kernel
theorem dX10_ramNow_11 : decode cX10_ramNow 11 = .ok (.iload_n 3, 1) := by decide +kernel
theorem dX10_ramNow_12 : decode cX10_ramNow 12 = .ok (.putfield 364, 3) := by decide +kernel
theorem dX10_ramNow_15 : decode cX10_ramNow 15 = .ok (.aload_n 0, 1) := by decide +kernel
theorem dX10_ramNow_16 : decode cX10_ramNow 16 = .ok (.iconst 1, 1) := by decide +kernel
theorem dX10_ramNow_17 : decode cX10_ramNow 17 = .ok (.putfield 366, 3) := by decide +kernel
theorem dX10_ramNow_20 : decode cX10_ramNow 20 = .ok (.aload_n 0, 1) := by decide +kernel
theorem dX10_ramNow_21 : decode cX10_ramNow 21 = .ok (.iconst 0, 1) := by decide +kernel
theorem dX10_ramNow_22 : decode cX10_ramNow 22 = .ok (.invokevirtual 387, 3) := by decide +kernel
theorem dX10_ramNow_25 : decode cX10_ramNow 25 = .ok (.ifCond .ne 6, 3) := by decide +kernel
theorem dX10_ramNow_28 : decode cX10_ramNow 28 = .ok (.bipush (-2), 2) := by decide +kernel
theorem dX10_ramNow_30 : decode cX10_ramNow 30 = .ok (.ireturn, 1) := by decide +kernel
theorem dX10_ramNow_31 : decode cX10_ramNow 31 = .ok (.iconst 0, 1) := by decide +kernel
theorem dX10_ramNow_32 : decode cX10_ramNow 32 = .ok (.istore 4, 2) := by decide +kernel
theorem dX10_ramNow_34 : decode cX10_ramNow 34 = .ok (.iconst 1, 1) := by decide +kernel
theorem dX10_ramNow_35 : decode cX10_ramNow 35 = .ok (.istore 5, 2) := by decide +kernel
theorem dX10_ramNow_37 : decode cX10_ramNow 37 = .ok (.iload 5, 2) := by decide +kernel
theorem dX10_ramNow_39 : decode cX10_ramNow 39 = .ok (.ifCond .eq 75, 3) := by decide +kernel
theorem dX10_ramNow_42 : decode cX10_ramNow 42 = .ok (.iconst 0, 1) := by decide +kernel
theorem dX10_ramNow_43 : decode cX10_ramNow 43 = .ok (.istore 5, 2) := by decide +kernel
theorem dX10_ramNow_45 : decode cX10_ramNow 45 = .ok (.iconst 0, 1) := by decide +kernel
theorem dX10_ramNow_46 : decode cX10_ramNow 46 = .ok (.istore 6, 2) := by decide +kernel
theorem dX10_ramNow_48 : decode cX10_ramNow 48 = .ok (.iload 6, 2) := by decide +kernel
theorem dX10_ramNow_50 : decode cX10_ramNow 50 = .ok (.aload_n 0, 1) := by decide +kernel
theorem dX10_ramNow_51 : decode cX10_ramNow 51 = .ok (.getfield 339, 3) := by decide +kernel
theorem dX10_ramNow_54 : decode cX10_ramNow 54 = .ok (.if_icmp .ge 42, 3) := by decide +kernel
theorem dX10_ramNow_57 : decode cX10_ramNow 57 = .ok (.iload 5, 2) := by decide +kernel
theorem dX10_ramNow_59 : decode cX10_ramNow 59 = .ok (.ifCond .ne 24, 3) := by decide +kernel
theorem dX10_ramNow_62 : decode cX10_ramNow 62 = .ok (.aload_n 0, 1) := by decide +kernel
theorem dX10_ramNow_63 : decode cX10_ramNow 63 = .ok (.iload 6, 2) := by decide +kernel
theorem dX10_ramNow_65 : decode cX10_ramNow 65 = .ok (.iconst 0, 1) := by decide +kernel
theorem dX10_ramNow_66 : decode cX10_ramNow 66 = .ok (.invokevirtual 349, 3) := by decide +kernel
theorem dX10_ramNow_69 : decode cX10_ramNow 69 = .ok (.iload 4, 2) := by decide +kernel
theorem dX10_ramNow_71 : decode cX10_ramNow 71 = .ok (.if_icmp .ne 16, 3) := by decide +kernel
theorem dX10_ramNow_74 : decode cX10_ramNow 74 = .ok (.aload_n 0, 1) := by decide +kernel
theorem dX10_ramNow_75 : decode cX10_ramNow 75 = .ok (.iload 6, 2) := by decide +kernel
theorem dX10_ramNow_77 : decode cX10_ramNow 77 = .ok (.invokevirtual 406, 3) := by decide +kernel
theorem dX10_ramNow_80 : decode cX10_ramNow 80 = .ok (.ifCond .eq 7, 3) := by decide +kernel
theorem dX10_ramNow_83 : decode cX10_ramNow 83 = .ok (.iconst 1, 1) := by decide +kernel
theorem dX10_ramNow_84 : decode cX10_ramNow 84 = .ok (.goto 4, 3) := by decide +kernel
theorem dX10_ramNow_87 : decode cX10_ramNow 87 = .ok (.iconst 0, 1) := by decide +kernel
theorem dX10_ramNow_88 : decode cX10_ramNow 88 = .ok (.istore 5, 2) := by decide +kernel
theorem dX10_ramNow_90 : decode cX10_ramNow 90 = .ok (.iinc 6 1, 3) := by decide +kernel
theorem dX10_ramNow_93 : decode cX10_ramNow 93 = .ok (.goto (-45), 3) := by decide +kernel
theorem dX10_ramNow_96 : decode cX10_ramNow 96 = .ok (.iload 4, 2) := by decide +kernel
theorem dX10_ramNow_98 : decode cX10_ramNow 98 = .ok (.iload 5, 2) := by decide +kernel
theorem dX10_ramNow_100 : decode cX10_ramNow 100 = .ok (.ifCond .eq 7, 3) := by decide +kernel
theorem dX10_ramNow_103 : decode cX10_ramNow 103 = .ok (.iconst 1, 1) := by decide +kernel
theorem dX10_ramNow_104 : decode cX10_ramNow 104 = .ok (.goto 4, 3) := by decide +kernel
theorem dX10_ramNow_107 : decode cX10_ramNow 107 = .ok (.iconst 0, 1) := by decide +kernel
theorem dX10_ramNow_108 : decode cX10_ramNow 108 = .ok (.iadd, 1) := by decide +kernel
theorem dX10_ramNow_109 : decode cX10_ramNow 109 = .ok (.istore 4, 2) := by decide +kernel
theorem dX10_ramNow_111 : decode cX10_ramNow 111 = .ok (.goto (-74), 3) := by decide +kernel
theorem dX10_ramNow_114 : decode cX10_ramNow 114 = .ok (.iload 4, 2) := by decide +kernel
theorem dX10_ramNow_116 : decode cX10_ramNow 116 = .ok (.ireturn, 1) := by decide +kernel
theorem dX10_readCart_0 : decode cX10_readCart 0 = .ok (.aload_n 0, 1) := by decide +kernel
theorem dX10_readCart_1 : decode cX10_readCart 1 = .ok (.aload_n 0, 1) := by decide +kernel
theorem dX10_readCart_2 : decode cX10_readCart 2 = .ok (.getfield 170, 3) := by decide +kernel
theorem dX10_readCart_5 : decode cX10_readCart 5 = .ok (.getfield 249, 3) := by decide +kernel
theorem dX10_readCart_8 : decode cX10_readCart 8 = .ok (.bipush 8, 2) := by decide +kernel
theorem dX10_readCart_10 : decode cX10_readCart 10 = .ok (.iconst 1, 1) := by decide +kernel
theorem dX10_readCart_11 : decode cX10_readCart 11 = .ok (.invokevirtual 216, 3) := by decide +kernel
theorem dX10_readCart_14 : decode cX10_readCart 14 = .ok (.aload_n 0, 1) := by decide +kernel
theorem dX10_readCart_15 : decode cX10_readCart 15 = .ok (.invokevirtual 220, 3) := by decide +kernel
theorem dX10_readCart_18 : decode cX10_readCart 18 = .ok (.lstore_n 1, 1) := by decide +kernel
theorem dX10_readCart_19 : decode cX10_readCart 19 = .ok (.aload_n 0, 1) := by decide +kernel
theorem dX10_readCart_20 : decode cX10_readCart 20 = .ok (.ldc 224, 2) := by decide +kernel
theorem dX10_readCart_22 : decode cX10_readCart 22 = .ok (.iconst 0, 1) := by decide +kernel
theorem dX10_readCart_23 : decode cX10_readCart 23 = .ok (.aload_n 0, 1) := by decide +kernel
theorem dX10_readCart_24 : decode cX10_readCart 24 = .ok (.getfield 170, 3) := by decide +kernel
theorem dX10_readCart_27 : decode cX10_readCart 27 = .ok (.getfield 174, 3) := by decide +kernel
theorem dX10_readCart_30 : decode cX10_readCart 30 = .ok (.iconst 1, 1) := by decide +kernel
theorem dX10_readCart_31 : decode cX10_readCart 31 = .ok (.isub, 1) := by decide +kernel
theorem dX10_readCart_32 : decode cX10_readCart 32 = .ok (.invokevirtual 225, 3) := by decide +kernel
theorem dX10_readCart_35 : decode cX10_readCart 35 = .ok (.istore_n 3, 1) := by decide +kernel
theorem dX10_readCart_36 : decode cX10_readCart 36 = .ok (.aload_n 0, 1) := by decide +kernel
theorem dX10_readCart_37 : decode cX10_readCart 37 = .ok (.ldc 252, 2) := by decide +kernel
theorem dX10_readCart_39 : decode cX10_readCart 39 = .ok (.iconst 1, 1) := by decide +kernel
theorem dX10_readCart_40 : decode cX10_readCart 40 = .ok (.bipush 99, 2) := by decide +kernel
theorem dX10_readCart_42 : decode cX10_readCart 42 = .ok (.invokevirtual 225, 3) := by decide +kernel
theorem dX10_readCart_45 : decode cX10_readCart 45 = .ok (.istore 4, 2) := by decide +kernel
theorem dX10_readCart_47 : decode cX10_readCart 47 = .ok (.aload_n 0, 1) := by decide +kernel
theorem dX10_readCart_48 : decode cX10_readCart 48 = .ok (.getfield 89, 3) := by decide +kernel
theorem dX10_readCart_51 : decode cX10_readCart 51 = .ok (.iconst 5, 1) := by decide +kernel
theorem dX10_readCart_52 : decode cX10_readCart 52 = .ok (.if_icmp .ne 4, 3) := by decide +kernel
theorem dX10_readCart_55 : decode cX10_readCart 55 = .ok (.return_, 1) := by decide +kernel
theorem dX10_readCart_56 : decode cX10_readCart 56 = .ok (.aload_n 0, 1) := by decide +kernel
theorem dX10_readCart_57 : decode cX10_readCart 57 = .ok (.getfield 170, 3) := by decide +kernel
theorem dX10_readCart_60 : decode cX10_readCart 60 = .ok (.lload_n 1, 1) := by decide +kernel
theorem dX10_readCart_61 : decode cX10_readCart 61 = .ok (.iconst (-1), 1) := by decide +kernel
theorem dX10_readCart_62 : decode cX10_readCart 62 = .ok (.invokevirtual 238, 3) := by decide +kernel
theorem dX10_readCart_65 : decode cX10_readCart 65 = .ok (.aload_n 0, 1) := by decide +kernel
theorem dX10_readCart_66 : decode cX10_readCart 66 = .ok (.getfield 170, 3) := by decide +kernel
theorem dX10_readCart_69 : decode cX10_readCart 69 = .ok (.getfield 254, 3) := by decide +kernel
theorem dX10_readCart_72 : decode cX10_readCart 72 = .ok (.aload_n 0, 1) := by decide +kernel
theorem dX10_readCart_73 : decode cX10_readCart 73 = .ok (.getfield 170, 3) := by decide +kernel
theorem dX10_readCart_76 : decode cX10_readCart 76 = .ok (.getfield 249, 3) := by decide +kernel
theorem dX10_readCart_79 : decode cX10_readCart 79 = .ok (.iload_n 3, 1) := by decide +kernel
theorem dX10_readCart_80 : decode cX10_readCart 80 = .ok (.iastore, 1) := by decide +kernel
theorem dX10_readCart_81 : decode cX10_readCart 81 = .ok (.aload_n 0, 1) := by decide +kernel
theorem dX10_readCart_82 : decode cX10_readCart 82 = .ok (.getfield 170, 3) := by decide +kernel
theorem dX10_readCart_85 : decode cX10_readCart 85 = .ok (.getfield 257, 3) := by decide +kernel
theorem dX10_readCart_88 : decode cX10_readCart 88 = .ok (.aload_n 0, 1) := by decide +kernel
theorem dX10_readCart_89 : decode cX10_readCart 89 = .ok (.getfield 170, 3) := by decide +kernel
theorem dX10_readCart_92 : decode cX10_readCart 92 = .ok (.getfield 249, 3) := by decide +kernel
theorem dX10_readCart_95 : decode cX10_readCart 95 = .ok (.iload 4, 2) := by decide +kernel
theorem dX10_readCart_97 : decode cX10_readCart 97 = .ok (.iastore, 1) := by decide +kernel
theorem dX10_readCart_98 : decode cX10_readCart 98 = .ok (.aload_n 0, 1) := by decide +kernel
theorem dX10_readCart_99 : decode cX10_readCart 99 = .ok (.getfield 170, 3) := by decide +kernel
theorem dX10_readCart_102 : decode cX10_readCart 102 = .ok (.dup, 1) := by decide +kernel
theorem dX10_readCart_103 : decode cX10_readCart 103 = .ok (.getfield 249, 3) := by decide +kernel
theorem dX10_readCart_106 : decode cX10_readCart 106 = .ok (.iconst 1, 1) := by decide +kernel
theorem dX10_readCart_107 : decode cX10_readCart 107 = .ok (.iadd, 1) := by decide +kernel
theorem dX10_readCart_108 : decode cX10_readCart 108 = .ok (.putfield 249, 3) := by decide +kernel
theorem dX10_readCart_111 : decode cX10_readCart 111 = .ok (.return_, 1) := by decide +kernel
theorem dX10_readCity_0 : decode cX10_readCity 0 = .ok (.iconst 1, 1) := by decide +kernel
theorem dX10_readCity_1 : decode cX10_readCity 1 = .ok (.istore_n 1, 1) := by decide +kernel
theorem dX10_readCity_2 : decode cX10_readCity 2 = .ok (.iload_n 1, 1) := by decide +kernel
theorem dX10_readCity_3 : decode cX10_readCity 3 = .ok (.ifCond .eq 17, 3) := by decide +kernel
theorem dX10_readCity_6 : decode cX10_readCity 6 = .ok (.aload_n 0, 1) := by decide +kernel
theorem dX10_readCity_7 : decode cX10_readCity 7 = .ok (.invokevirtual 186, 3) := by decide +kernel
theorem dX10_readCity_10 : decode cX10_readCity 10 = .ok (.aload_n 0, 1) := by decide +kernel
theorem dX10_readCity_11 : decode cX10_readCity 11 = .ok (.bipush 59, 2) := by decide +kernel
theorem dX10_readCity_13 : decode cX10_readCity 13 = .ok (.invokevirtual 189, 3) := by decide +kernel
theorem dX10_readCity_16 : decode cX10_readCity 16 = .ok (.istore_n 1, 1) := by decide +kernel
theorem dX10_readCity_17 : decode cX10_readCity 17 = .ok (.goto (-15), 3) := by decide +kernel
theorem dX10_readCity_20 : decode cX10_readCity 20 = .ok (.aload_n 0, 1) := by decide +kernel
theorem dX10_readCity_21 : decode cX10_readCity 21 = .ok (.getfield 89, 3) := by decide +kernel
theorem dX10_readCity_24 : decode cX10_readCity 24 = .ok (.iconst 1, 1) := by decide +kernel
theorem dX10_readCity_25 : decode cX10_readCity 25 = .ok (.if_icmp .eq 8, 3) := by decide +kernel
theorem dX10_readCity_28 : decode cX10_readCity 28 = .ok (.aload_n 0, 1) := by decide +kernel
theorem dX10_readCity_29 : decode cX10_readCity 29 = .ok (.iconst 1, 1) := by decide +kernel
theorem dX10_readCity_30 : decode cX10_readCity 30 = .ok (.invokevirtual 135, 3) := by decide +kernel
theorem dX10_readCity_33 : decode cX10_readCity 33 = .ok (.aload_n 0, 1) := by decide +kernel
theorem dX10_readCity_34 : decode cX10_readCity 34 = .ok (.getfield 170, 3) := by decide +kernel
theorem dX10_readCity_37 : decode cX10_readCity 37 = .ok (.getfield 174, 3) := by decide +kernel
theorem dX10_readCity_40 : decode cX10_readCity 40 = .ok (.ifCond .ne 9, 3) := by decide +kernel
theorem dX10_readCity_43 : decode cX10_readCity 43 = .ok (.aload_n 0, 1) := by decide +kernel
theorem dX10_readCity_44 : decode cX10_readCity 44 = .ok (.bipush 6, 2) := by decide +kernel
theorem dX10_readCity_46 : decode cX10_readCity 46 = .ok (.invokevirtual 135, 3) := by decide +kernel
theorem dX10_readCity_49 : decode cX10_readCity 49 = .ok (.return_, 1) := by decide +kernel
theorem dX10_readFresh_0 : decode cX10_readFresh 0 = .ok (.aload_n 0, 1) := by decide +kernel
theorem dX10_readFresh_1 : decode cX10_readFresh 1 = .ok (.invokevirtual 178, 3) := by decide +kernel
theorem dX10_readFresh_4 : decode cX10_readFresh 4 = .ok (.ifCond .ne 8, 3) := by decide +kernel
theorem dX10_readFresh_7 : decode cX10_readFresh 7 = .ok (.aload_n 0, 1) := by decide +kernel
theorem dX10_readFresh_8 : decode cX10_readFresh 8 = .ok (.iconst 1, 1) := by decide +kernel
theorem dX10_readFresh_9 : decode cX10_readFresh 9 = .ok (.invokevirtual 135, 3) := by decide +kernel
theorem dX10_readFresh_12 : decode cX10_readFresh 12 = .ok (.aload_n 0, 1) := by decide +kernel
theorem dX10_readFresh_13 : decode cX10_readFresh 13 = .ok (.getfield 170, 3) := by decide +kernel
theorem dX10_readFresh_16 : decode cX10_readFresh 16 = .ok (.aload_n 0, 1) := by decide +kernel
theorem dX10_readFresh_17 : decode cX10_readFresh 17 = .ok (.getfield 108, 3) := by decide +kernel
theorem dX10_readFresh_20 : decode cX10_readFresh 20 = .ok (.invokevirtual 182, 3) := by decide +kernel
theorem dX10_readFresh_23 : decode cX10_readFresh 23 = .ok (.iconst (-1), 1) := by decide +kernel
theorem dX10_readFresh_24 : decode cX10_readFresh 24 = .ok (.if_icmp .eq 8, 3) := by decide +kernel
theorem dX10_readFresh_27 : decode cX10_readFresh 27 = .ok (.aload_n 0, 1) := by decide +kernel
theorem dX10_readFresh_28 : decode cX10_readFresh 28 = .ok (.iconst 3, 1) := by decide +kernel
theorem dX10_readFresh_29 : decode cX10_readFresh 29 = .ok (.invokevirtual 135, 3) := by decide +kernel
theorem dX10_readFresh_32 : decode cX10_readFresh 32 = .ok (.aload_n 0, 1) := by decide +kernel
theorem dX10_readFresh_33 : decode cX10_readFresh 33 = .ok (.getfield 108, 3) := by decide +kernel
theorem dX10_readFresh_36 : decode cX10_readFresh 36 = .ok (.lstore_n 1, 1) := by decide +kernel
theorem dX10_readFresh_37 : decode cX10_readFresh 37 = .ok (.aload_n 0, 1) := by decide +kernel
theorem dX10_readFresh_38 : decode cX10_readFresh 38 = .ok (.invokevirtual 132, 3) := by decide +kernel
theorem dX10_readFresh_41 : decode cX10_readFresh 41 = .ok (.lload_n 1, 1) := by decide +kernel
theorem dX10_readFresh_42 : decode cX10_readFresh 42 = .ok (.lreturn, 1) := by decide +kernel
theorem dX10_readGate_0 : decode cX10_readGate 0 = .ok (.aload_n 0, 1) := by decide +kernel
theorem dX10_readGate_1 : decode cX10_readGate 1 = .ok (.aload_n 0, 1) := by decide +kernel
theorem dX10_readGate_2 : decode cX10_readGate 2 = .ok (.getfield 170, 3) := by decide +kernel
theorem dX10_readGate_5 : decode cX10_readGate 5 = .ok (.getfield 213, 3) := by decide +kernel
theorem dX10_readGate_8 : decode cX10_readGate 8 = .ok (.bipush 11, 2) := by decide +kernel
theorem dX10_readGate_10 : decode cX10_readGate 10 = .ok (.iconst 1, 1) := by decide +kernel
theorem dX10_readGate_11 : decode cX10_readGate 11 = .ok (.invokevirtual 216, 3) := by decide +kernel
theorem dX10_readGate_14 : decode cX10_readGate 14 = .ok (.aload_n 0, 1) := by decide +kernel
theorem dX10_readGate_15 : decode cX10_readGate 15 = .ok (.invokevirtual 220, 3) := by decide +kernel
theorem dX10_readGate_18 : decode cX10_readGate 18 = .ok (.lstore_n 1, 1) := by decide +kernel
theorem dX10_readGate_19 : decode cX10_readGate 19 = .ok (.aload_n 0, 1) := by decide +kernel
theorem dX10_readGate_20 : decode cX10_readGate 20 = .ok (.ldc 224, 2) := by decide +kernel
theorem dX10_readGate_22 : decode cX10_readGate 22 = .ok (.iconst 0, 1) := by decide +kernel
theorem dX10_readGate_23 : decode cX10_readGate 23 = .ok (.aload_n 0, 1) := by decide +kernel
theorem dX10_readGate_24 : decode cX10_readGate 24 = .ok (.getfield 170, 3) := by decide +kernel
theorem dX10_readGate_27 : decode cX10_readGate 27 = .ok (.getfield 174, 3) := by decide +kernel
theorem dX10_readGate_30 : decode cX10_readGate 30 = .ok (.iconst 2, 1) := by decide +kernel
theorem dX10_readGate_31 : decode cX10_readGate 31 = .ok (.isub, 1) := by decide +kernel
theorem dX10_readGate_32 : decode cX10_readGate 32 = .ok (.invokevirtual 225, 3) := by decide +kernel
theorem dX10_readGate_35 : decode cX10_readGate 35 = .ok (.istore_n 3, 1) := by decide +kernel
theorem dX10_readGate_36 : decode cX10_readGate 36 = .ok (.aload_n 0, 1) := by decide +kernel
theorem dX10_readGate_37 : decode cX10_readGate 37 = .ok (.ldc 229, 2) := by decide +kernel
theorem dX10_readGate_39 : decode cX10_readGate 39 = .ok (.iconst 0, 1) := by decide +kernel
theorem dX10_readGate_40 : decode cX10_readGate 40 = .ok (.bipush 11, 2) := by decide +kernel
theorem dX10_readGate_42 : decode cX10_readGate 42 = .ok (.invokevirtual 225, 3) := by decide +kernel
theorem dX10_readGate_45 : decode cX10_readGate 45 = .ok (.istore 4, 2) := by decide +kernel
theorem dX10_readGate_47 : decode cX10_readGate 47 = .ok (.aload_n 0, 1) := by decide +kernel
theorem dX10_readGate_48 : decode cX10_readGate 48 = .ok (.ldc 230, 2) := by decide +kernel
theorem dX10_readGate_50 : decode cX10_readGate 50 = .ok (.iconst 1, 1) := by decide +kernel
theorem dX10_readGate_51 : decode cX10_readGate 51 = .ok (.bipush 99, 2) := by decide +kernel
theorem dX10_readGate_53 : decode cX10_readGate 53 = .ok (.invokevirtual 225, 3) := by decide +kernel
theorem dX10_readGate_56 : decode cX10_readGate 56 = .ok (.istore 5, 2) := by decide +kernel
theorem dX10_readGate_58 : decode cX10_readGate 58 = .ok (.aload_n 0, 1) := by decide +kernel
theorem dX10_readGate_59 : decode cX10_readGate 59 = .ok (.ldc 232, 2) := by decide +kernel
theorem dX10_readGate_61 : decode cX10_readGate 61 = .ok (.iconst 1, 1) := by decide +kernel
theorem dX10_readGate_62 : decode cX10_readGate 62 = .ok (.bipush 99, 2) := by decide +kernel
theorem dX10_readGate_64 : decode cX10_readGate 64 = .ok (.invokevirtual 225, 3) := by decide +kernel
theorem dX10_readGate_67 : decode cX10_readGate 67 = .ok (.istore 6, 2) := by decide +kernel
theorem dX10_readGate_69 : decode cX10_readGate 69 = .ok (.aload_n 0, 1) := by decide +kernel
theorem dX10_readGate_70 : decode cX10_readGate 70 = .ok (.ldc 234, 2) := by decide +kernel
theorem dX10_readGate_72 : decode cX10_readGate 72 = .ok (.iconst 1, 1) := by decide +kernel
theorem dX10_readGate_73 : decode cX10_readGate 73 = .ok (.bipush 9, 2) := by decide +kernel
theorem dX10_readGate_75 : decode cX10_readGate 75 = .ok (.invokevirtual 225, 3) := by decide +kernel
theorem dX10_readGate_78 : decode cX10_readGate 78 = .ok (.istore 7, 2) := by decide +kernel
theorem dX10_readGate_80 : decode cX10_readGate 80 = .ok (.aload_n 0, 1) := by decide +kernel
theorem dX10_readGate_81 : decode cX10_readGate 81 = .ok (.ldc 236, 2) := by decide +kernel
theorem dX10_readGate_83 : decode cX10_readGate 83 = .ok (.iconst 0, 1) := by decide +kernel
theorem dX10_readGate_84 : decode cX10_readGate 84 = .ok (.bipush 99, 2) := by decide +kernel
theorem dX10_readGate_86 : decode cX10_readGate 86 = .ok (.invokevirtual 225, 3) := by decide +kernel
theorem dX10_readGate_89 : decode cX10_readGate 89 = .ok (.istore 8, 2) := by decide +kernel
theorem dX10_readGate_91 : decode cX10_readGate 91 = .ok (.aload_n 0, 1) := by decide +kernel
theorem dX10_readGate_92 : decode cX10_readGate 92 = .ok (.getfield 89, 3) := by decide +kernel
theorem dX10_readGate_95 : decode cX10_readGate 95 = .ok (.iconst 5, 1) := by decide +kernel
theorem dX10_readGate_96 : decode cX10_readGate 96 = .ok (.if_icmp .ne 4, 3) := by decide +kernel
theorem dX10_readGate_99 : decode cX10_readGate 99 = .ok (.return_, 1) := by decide +kernel
theorem dX10_readGate_100 : decode cX10_readGate 100 = .ok (.aload_n 0, 1) := by decide +kernel
theorem dX10_readGate_101 : decode cX10_readGate 101 = .ok (.getfield 170, 3) := by decide +kernel
theorem dX10_readGate_104 : decode cX10_readGate 104 = .ok (.lload_n 1, 1) := by decide +kernel
theorem dX10_readGate_105 : decode cX10_readGate 105 = .ok (.iconst (-1), 1) := by decide +kernel
theorem dX10_readGate_106 : decode cX10_readGate 106 = .ok (.invokevirtual 238, 3) := by decide +kernel
theorem dX10_readGate_109 : decode cX10_readGate 109 = .ok (.aload_n 0, 1) := by decide +kernel
theorem dX10_readGate_110 : decode cX10_readGate 110 = .ok (.getfield 170, 3) := by decide +kernel
theorem dX10_readGate_113 : decode cX10_readGate 113 = .ok (.getfield 242, 3) := by decide +kernel
theorem dX10_readGate_116 : decode cX10_readGate 116 = .ok (.aload_n 0, 1) := by decide +kernel
theorem dX10_readGate_117 : decode cX10_readGate 117 = .ok (.getfield 170, 3) := by decide +kernel
theorem dX10_readGate_120 : decode cX10_readGate 120 = .ok (.getfield 213, 3) := by decide +kernel
theorem dX10_readGate_123 : decode cX10_readGate 123 = .ok (.iload_n 3, 1) := by decide +kernel
theorem dX10_readGate_124 : decode cX10_readGate 124 = .ok (.iload 4, 2) := by decide +kernel
theorem dX10_readGate_126 : decode cX10_readGate 126 = .ok (.iload 5, 2) := by decide +kernel
theorem dX10_readGate_128 : decode cX10_readGate 128 = .ok (.iload 6, 2) := by decide +kernel
theorem dX10_readGate_130 : decode cX10_readGate 130 = .ok (.iload 7, 2) := by decide +kernel
theorem dX10_readGate_132 : decode cX10_readGate 132 = .ok (.iload 8, 2) := by decide +kernel
theorem dX10_readGate_134 : decode cX10_readGate 134 = .ok (.invokestatic 245, 3) := by decide +kernel
theorem dX10_readGate_137 : decode cX10_readGate 137 = .ok (.aload_n 0, 1) := by decide +kernel
theorem dX10_readGate_138 : decode cX10_readGate 138 = .ok (.getfield 170, 3) := by decide +kernel
theorem dX10_readGate_141 : decode cX10_readGate 141 = .ok (.dup, 1) := by decide +kernel
theorem dX10_readGate_142 : decode cX10_readGate 142 = .ok (.getfield 213, 3) := by decide +kernel
theorem dX10_readGate_145 : decode cX10_readGate 145 = .ok (.iconst 1, 1) := by decide +kernel
theorem dX10_readGate_146 : decode cX10_readGate 146 = .ok (.iadd, 1) := by decide +kernel
theorem dX10_readGate_147 : decode cX10_readGate 147 = .ok (.putfield 213, 3) := by decide +kernel
theorem dX10_readGate_150 : decode cX10_readGate 150 = .ok (.return_, 1) := by decide +kernel
theorem dX10_readGood_0 : decode cX10_readGood 0 = .ok (.aload_n 0, 1) := by decide +kernel
theorem dX10_readGood_1 : decode cX10_readGood 1 = .ok (.aload_n 0, 1) := by decide +kernel
theorem dX10_readGood_2 : decode cX10_readGood 2 = .ok (.getfield 170, 3) := by decide +kernel
theorem dX10_readGood_5 : decode cX10_readGood 5 = .ok (.getfield 271, 3) := by decide +kernel
theorem dX10_readGood_8 : decode cX10_readGood 8 = .ok (.bipush 8, 2) := by decide +kernel
theorem dX10_readGood_10 : decode cX10_readGood 10 = .ok (.iconst 0, 1) := by decide +kernel
theorem dX10_readGood_11 : decode cX10_readGood 11 = .ok (.invokevirtual 216, 3) := by decide +kernel
theorem dX10_readGood_14 : decode cX10_readGood 14 = .ok (.aload_n 0, 1) := by decide +kernel
theorem dX10_readGood_15 : decode cX10_readGood 15 = .ok (.invokevirtual 220, 3) := by decide +kernel
theorem dX10_readGood_18 : decode cX10_readGood 18 = .ok (.lstore_n 1, 1) := by decide +kernel
theorem dX10_readGood_19 : decode cX10_readGood 19 = .ok (.aload_n 0, 1) := by decide +kernel
theorem dX10_readGood_20 : decode cX10_readGood 20 = .ok (.ldc_w 274, 3) := by decide +kernel
theorem dX10_readGood_23 : decode cX10_readGood 23 = .ok (.iconst 1, 1) := by decide +kernel
theorem dX10_readGood_24 : decode cX10_readGood 24 = .ok (.bipush 99, 2) := by decide +kernel
theorem dX10_readGood_26 : decode cX10_readGood 26 = .ok (.invokevirtual 225, 3) := by decide +kernel
theorem dX10_readGood_29 : decode cX10_readGood 29 = .ok (.istore_n 3, 1) := by decide +kernel
theorem dX10_readGood_30 : decode cX10_readGood 30 = .ok (.aload_n 0, 1) := by decide +kernel
theorem dX10_readGood_31 : decode cX10_readGood 31 = .ok (.ldc 230, 2) := by decide +kernel
theorem dX10_readGood_33 : decode cX10_readGood 33 = .ok (.iconst 1, 1) := by decide +kernel
theorem dX10_readGood_34 : decode cX10_readGood 34 = .ok (.bipush 99, 2) := by decide +kernel
theorem dX10_readGood_36 : decode cX10_readGood 36 = .ok (.invokevirtual 225, 3) := by decide +kernel
theorem dX10_readGood_39 : decode cX10_readGood 39 = .ok (.istore 4, 2) := by decide +kernel
theorem dX10_readGood_41 : decode cX10_readGood 41 = .ok (.aload_n 0, 1) := by decide +kernel
theorem dX10_readGood_42 : decode cX10_readGood 42 = .ok (.ldc 232, 2) := by decide +kernel
theorem dX10_readGood_44 : decode cX10_readGood 44 = .ok (.iconst 1, 1) := by decide +kernel
theorem dX10_readGood_45 : decode cX10_readGood 45 = .ok (.bipush 99, 2) := by decide +kernel
theorem dX10_readGood_47 : decode cX10_readGood 47 = .ok (.invokevirtual 225, 3) := by decide +kernel
theorem dX10_readGood_50 : decode cX10_readGood 50 = .ok (.istore 5, 2) := by decide +kernel
theorem dX10_readGood_52 : decode cX10_readGood 52 = .ok (.aload_n 0, 1) := by decide +kernel
theorem dX10_readGood_53 : decode cX10_readGood 53 = .ok (.ldc_w 276, 3) := by decide +kernel
theorem dX10_readGood_56 : decode cX10_readGood 56 = .ok (.iconst 1, 1) := by decide +kernel
theorem dX10_readGood_57 : decode cX10_readGood 57 = .ok (.bipush 99, 2) := by decide +kernel
theorem dX10_readGood_59 : decode cX10_readGood 59 = .ok (.invokevirtual 225, 3) := by decide +kernel
theorem dX10_readGood_62 : decode cX10_readGood 62 = .ok (.istore 6, 2) := by decide +kernel
theorem dX10_readGood_64 : decode cX10_readGood 64 = .ok (.aload_n 0, 1) := by decide +kernel
theorem dX10_readGood_65 : decode cX10_readGood 65 = .ok (.ldc 164, 2) := by decide +kernel
theorem dX10_readGood_67 : decode cX10_readGood 67 = .ok (.invokevirtual 278, 3) := by decide +kernel
theorem dX10_readGood_70 : decode cX10_readGood 70 = .ok (.ifCond .eq 13, 3) := by decide +kernel
theorem dX10_readGood_73 : decode cX10_readGood 73 = .ok (.aload_n 0, 1) := by decide +kernel
theorem dX10_readGood_74 : decode cX10_readGood 74 = .ok (.iconst 2, 1) := by decide +kernel
theorem dX10_readGood_75 : decode cX10_readGood 75 = .ok (.bipush 9, 2) := by decide +kernel
theorem dX10_readGood_77 : decode cX10_readGood 77 = .ok (.invokevirtual 151, 3) := by decide +kernel
theorem dX10_readGood_80 : decode cX10_readGood 80 = .ok (.goto 4, 3) := by decide +kernel
theorem dX10_readGood_83 : decode cX10_readGood 83 = .ok (.iconst 0, 1) := by decide +kernel
theorem dX10_readGood_84 : decode cX10_readGood 84 = .ok (.istore 7, 2) := by decide +kernel
theorem dX10_readGood_86 : decode cX10_readGood 86 = .ok (.aload_n 0, 1) := by decide +kernel
theorem dX10_readGood_87 : decode cX10_readGood 87 = .ok (.ldc 166, 2) := by decide +kernel
theorem dX10_readGood_89 : decode cX10_readGood 89 = .ok (.invokevirtual 278, 3) := by decide +kernel
theorem dX10_readGood_92 : decode cX10_readGood 92 = .ok (.istore 8, 2) := by decide +kernel
theorem dX10_readGood_94 : decode cX10_readGood 94 = .ok (.aload_n 0, 1) := by decide +kernel
theorem dX10_readGood_95 : decode cX10_readGood 95 = .ok (.ldc 168, 2) := by decide +kernel
theorem dX10_readGood_97 : decode cX10_readGood 97 = .ok (.invokevirtual 278, 3) := by decide +kernel
theorem dX10_readGood_100 : decode cX10_readGood 100 = .ok (.istore 9, 2) := by decide +kernel
theorem dX10_readGood_102 : decode cX10_readGood 102 = .ok (.aload_n 0, 1) := by decide +kernel
theorem dX10_readGood_103 : decode cX10_readGood 103 = .ok (.getfield 89, 3) := by decide +kernel
theorem dX10_readGood_106 : decode cX10_readGood 106 = .ok (.iconst 5, 1) := by decide +kernel
theorem dX10_readGood_107 : decode cX10_readGood 107 = .ok (.if_icmp .ne 4, 3) := by decide +kernel
theorem dX10_readGood_110 : decode cX10_readGood 110 = .ok (.return_, 1) := by decide +kernel
theorem dX10_readGood_111 : decode cX10_readGood 111 = .ok (.aload_n 0, 1) := by decide +kernel
theorem dX10_readGood_112 : decode cX10_readGood 112 = .ok (.getfield 170, 3) := by decide +kernel
theorem dX10_readGood_115 : decode cX10_readGood 115 = .ok (.getfield 271, 3) := by decide +kernel
theorem dX10_readGood_118 : decode cX10_readGood 118 = .ok (.istore 10, 2) := by decide +kernel
theorem dX10_readGood_120 : decode cX10_readGood 120 = .ok (.aload_n 0, 1) := by decide +kernel
theorem dX10_readGood_121 : decode cX10_readGood 121 = .ok (.getfield 170, 3) := by decide +kernel
theorem dX10_readGood_124 : decode cX10_readGood 124 = .ok (.lload_n 1, 1) := by decide +kernel
theorem dX10_readGood_125 : decode cX10_readGood 125 = .ok (.iload 10, 2) := by decide +kernel
theorem dX10_readGood_127 : decode cX10_readGood 127 = .ok (.invokevirtual 238, 3) := by decide +kernel
theorem dX10_readGood_130 : decode cX10_readGood 130 = .ok (.aload_n 0, 1) := by decide +kernel
theorem dX10_readGood_131 : decode cX10_readGood 131 = .ok (.getfield 170, 3) := by decide +kernel
theorem dX10_readGood_134 : decode cX10_readGood 134 = .ok (.getfield 281, 3) := by decide +kernel
theorem dX10_readGood_137 : decode cX10_readGood 137 = .ok (.iload 10, 2) := by decide +kernel
theorem dX10_readGood_139 : decode cX10_readGood 139 = .ok (.iload_n 3, 1) := by decide +kernel
theorem dX10_readGood_140 : decode cX10_readGood 140 = .ok (.iastore, 1) := by decide +kernel
theorem dX10_readGood_141 : decode cX10_readGood 141 = .ok (.aload_n 0, 1) := by decide +kernel
theorem dX10_readGood_142 : decode cX10_readGood 142 = .ok (.getfield 170, 3) := by decide +kernel
theorem dX10_readGood_145 : decode cX10_readGood 145 = .ok (.getfield 283, 3) := by decide +kernel
theorem dX10_readGood_148 : decode cX10_readGood 148 = .ok (.iload 10, 2) := by decide +kernel
theorem dX10_readGood_150 : decode cX10_readGood 150 = .ok (.iload 4, 2) := by decide +kernel
theorem dX10_readGood_152 : decode cX10_readGood 152 = .ok (.iastore, 1) := by decide +kernel
theorem dX10_readGood_153 : decode cX10_readGood 153 = .ok (.aload_n 0, 1) := by decide +kernel
theorem dX10_readGood_154 : decode cX10_readGood 154 = .ok (.getfield 170, 3) := by decide +kernel
theorem dX10_readGood_157 : decode cX10_readGood 157 = .ok (.getfield 285, 3) := by decide +kernel
theorem dX10_readGood_160 : decode cX10_readGood 160 = .ok (.iload 10, 2) := by decide +kernel
theorem dX10_readGood_162 : decode cX10_readGood 162 = .ok (.iload 5, 2) := by decide +kernel
theorem dX10_readGood_164 : decode cX10_readGood 164 = .ok (.iastore, 1) := by decide +kernel
theorem dX10_readGood_165 : decode cX10_readGood 165 = .ok (.aload_n 0, 1) := by decide +kernel
theorem dX10_readGood_166 : decode cX10_readGood 166 = .ok (.getfield 170, 3) := by decide +kernel
theorem dX10_readGood_169 : decode cX10_readGood 169 = .ok (.getfield 287, 3) := by decide +kernel
theorem dX10_readGood_172 : decode cX10_readGood 172 = .ok (.iload 10, 2) := by decide +kernel
theorem dX10_readGood_174 : decode cX10_readGood 174 = .ok (.iload 6, 2) := by decide +kernel
theorem dX10_readGood_176 : decode cX10_readGood 176 = .ok (.iastore, 1) := by decide +kernel
theorem dX10_readGood_177 : decode cX10_readGood 177 = .ok (.aload_n 0, 1) := by decide +kernel
theorem dX10_readGood_178 : decode cX10_readGood 178 = .ok (.getfield 170, 3) := by decide +kernel
theorem dX10_readGood_181 : decode cX10_readGood 181 = .ok (.getfield 289, 3) := by decide +kernel
theorem dX10_readGood_184 : decode cX10_readGood 184 = .ok (.iload 10, 2) := by decide +kernel
theorem dX10_readGood_186 : decode cX10_readGood 186 = .ok (.iload 7, 2) := by decide +kernel
theorem dX10_readGood_188 : decode cX10_readGood 188 = .ok (.iastore, 1) := by decide +kernel
theorem dX10_readGood_189 : decode cX10_readGood 189 = .ok (.aload_n 0, 1) := by decide +kernel
theorem dX10_readGood_190 : decode cX10_readGood 190 = .ok (.getfield 170, 3) := by decide +kernel
theorem dX10_readGood_193 : decode cX10_readGood 193 = .ok (.getfield 291, 3) := by decide +kernel
theorem dX10_readGood_196 : decode cX10_readGood 196 = .ok (.iload 10, 2) := by decide +kernel
theorem dX10_readGood_198 : decode cX10_readGood 198 = .ok (.iload 8, 2) := by decide +kernel
theorem dX10_readGood_200 : decode cX10_readGood 200 = .ok (.bastore, 1) := by decide +kernel
theorem dX10_readGood_201 : decode cX10_readGood 201 = .ok (.aload_n 0, 1) := by decide +kernel
theorem dX10_readGood_202 : decode cX10_readGood 202 = .ok (.getfield 170, 3) := by decide +kernel
theorem dX10_readGood_205 : decode cX10_readGood 205 = .ok (.getfield 293, 3) := by decide +kernel
theorem dX10_readGood_208 : decode cX10_readGood 208 = .ok (.iload 10, 2) := by decide +kernel
theorem dX10_readGood_210 : decode cX10_readGood 210 = .ok (.iload 9, 2) := by decide +kernel
theorem dX10_readGood_212 : decode cX10_readGood 212 = .ok (.bastore, 1) := by decide +kernel
theorem dX10_readGood_213 : decode cX10_readGood 213 = .ok (.aload_n 0, 1) := by decide +kernel
theorem dX10_readGood_214 : decode cX10_readGood 214 = .ok (.getfield 170, 3) := by decide +kernel
theorem dX10_readGood_217 : decode cX10_readGood 217 = .ok (.dup, 1) := by decide +kernel
theorem dX10_readGood_218 : decode cX10_readGood 218 = .ok (.getfield 271, 3) := by decide +kernel
theorem dX10_readGood_221 : decode cX10_readGood 221 = .ok (.iconst 1, 1) := by decide +kernel
theorem dX10_readGood_222 : decode cX10_readGood 222 = .ok (.iadd, 1) := by decide +kernel
theorem dX10_readGood_223 : decode cX10_readGood 223 = .ok (.putfield 271, 3) := by decide +kernel
theorem dX10_readGood_226 : decode cX10_readGood 226 = .ok (.return_, 1) := by decide +kernel
theorem dX10_readLine_0 : decode cX10_readLine 0 = .ok (.aload_n 0, 1) := by decide +kernel
theorem dX10_readLine_1 : decode cX10_readLine 1 = .ok (.ldc 154, 2) := by decide +kernel
theorem dX10_readLine_3 : decode cX10_readLine 3 = .ok (.invokevirtual 128, 3) := by decide +kernel
theorem dX10_readLine_6 : decode cX10_readLine 6 = .ok (.ifCond .eq 10, 3) := by decide +kernel
theorem dX10_readLine_9 : decode cX10_readLine 9 = .ok (.aload_n 0, 1) := by decide +kernel
theorem dX10_readLine_10 : decode cX10_readLine 10 = .ok (.invokevirtual 192, 3) := by decide +kernel
theorem dX10_readLine_13 : decode cX10_readLine 13 = .ok (.goto 88, 3) := by decide +kernel
theorem dX10_readLine_16 : decode cX10_readLine 16 = .ok (.aload_n 0, 1) := by decide +kernel
theorem dX10_readLine_17 : decode cX10_readLine 17 = .ok (.ldc 156, 2) := by decide +kernel
theorem dX10_readLine_19 : decode cX10_readLine 19 = .ok (.invokevirtual 128, 3) := by decide +kernel
theorem dX10_readLine_22 : decode cX10_readLine 22 = .ok (.ifCond .eq 10, 3) := by decide +kernel
theorem dX10_readLine_25 : decode cX10_readLine 25 = .ok (.aload_n 0, 1) := by decide +kernel
theorem dX10_readLine_26 : decode cX10_readLine 26 = .ok (.invokevirtual 195, 3) := by decide +kernel
theorem dX10_readLine_29 : decode cX10_readLine 29 = .ok (.goto 72, 3) := by decide +kernel
theorem dX10_readLine_32 : decode cX10_readLine 32 = .ok (.aload_n 0, 1) := by decide +kernel
theorem dX10_readLine_33 : decode cX10_readLine 33 = .ok (.ldc 157, 2) := by decide +kernel
theorem dX10_readLine_35 : decode cX10_readLine 35 = .ok (.invokevirtual 128, 3) := by decide +kernel
theorem dX10_readLine_38 : decode cX10_readLine 38 = .ok (.ifCond .eq 10, 3) := by decide +kernel
theorem dX10_readLine_41 : decode cX10_readLine 41 = .ok (.aload_n 0, 1) := by decide +kernel
theorem dX10_readLine_42 : decode cX10_readLine 42 = .ok (.invokevirtual 198, 3) := by decide +kernel
theorem dX10_readLine_45 : decode cX10_readLine 45 = .ok (.goto 56, 3) := by decide +kernel
theorem dX10_readLine_48 : decode cX10_readLine 48 = .ok (.aload_n 0, 1) := by decide +kernel
theorem dX10_readLine_49 : decode cX10_readLine 49 = .ok (.ldc 159, 2) := by decide +kernel
theorem dX10_readLine_51 : decode cX10_readLine 51 = .ok (.invokevirtual 128, 3) := by decide +kernel
theorem dX10_readLine_54 : decode cX10_readLine 54 = .ok (.ifCond .eq 10, 3) := by decide +kernel
theorem dX10_readLine_57 : decode cX10_readLine 57 = .ok (.aload_n 0, 1) := by decide +kernel
theorem dX10_readLine_58 : decode cX10_readLine 58 = .ok (.invokevirtual 201, 3) := by decide +kernel
theorem dX10_readLine_61 : decode cX10_readLine 61 = .ok (.goto 40, 3) := by decide +kernel
theorem dX10_readLine_64 : decode cX10_readLine 64 = .ok (.aload_n 0, 1) := by decide +kernel
theorem dX10_readLine_65 : decode cX10_readLine 65 = .ok (.ldc 161, 2) := by decide +kernel
theorem dX10_readLine_67 : decode cX10_readLine 67 = .ok (.invokevirtual 128, 3) := by decide +kernel
theorem dX10_readLine_70 : decode cX10_readLine 70 = .ok (.ifCond .eq 10, 3) := by decide +kernel
theorem dX10_readLine_73 : decode cX10_readLine 73 = .ok (.aload_n 0, 1) := by decide +kernel
theorem dX10_readLine_74 : decode cX10_readLine 74 = .ok (.invokevirtual 204, 3) := by decide +kernel
theorem dX10_readLine_77 : decode cX10_readLine 77 = .ok (.goto 24, 3) := by decide +kernel
theorem dX10_readLine_80 : decode cX10_readLine 80 = .ok (.aload_n 0, 1) := by decide +kernel
theorem dX10_readLine_81 : decode cX10_readLine 81 = .ok (.ldc 162, 2) := by decide +kernel
theorem dX10_readLine_83 : decode cX10_readLine 83 = .ok (.invokevirtual 128, 3) := by decide +kernel
theorem dX10_readLine_86 : decode cX10_readLine 86 = .ok (.ifCond .eq 10, 3) := by decide +kernel
theorem dX10_readLine_89 : decode cX10_readLine 89 = .ok (.aload_n 0, 1) := by decide +kernel
theorem dX10_readLine_90 : decode cX10_readLine 90 = .ok (.invokevirtual 207, 3) := by decide +kernel
theorem dX10_readLine_93 : decode cX10_readLine 93 = .ok (.goto 8, 3) := by decide +kernel
theorem dX10_readLine_96 : decode cX10_readLine 96 = .ok (.aload_n 0, 1) := by decide +kernel
theorem dX10_readLine_97 : decode cX10_readLine 97 = .ok (.iconst 1, 1) := by decide +kernel
theorem dX10_readLine_98 : decode cX10_readLine 98 = .ok (.invokevirtual 135, 3) := by decide +kernel
theorem dX10_readLine_101 : decode cX10_readLine 101 = .ok (.return_, 1) := by decide +kernel
theorem dX10_readOrder_0 : decode cX10_readOrder 0 = .ok (.aload_n 0, 1) := by decide +kernel
theorem dX10_readOrder_1 : decode cX10_readOrder 1 = .ok (.aload_n 0, 1) := by decide +kernel
theorem dX10_readOrder_2 : decode cX10_readOrder 2 = .ok (.getfield 170, 3) := by decide +kernel
theorem dX10_readOrder_5 : decode cX10_readOrder 5 = .ok (.getfield 296, 3) := by decide +kernel
theorem dX10_readOrder_8 : decode cX10_readOrder 8 = .ok (.bipush 8, 2) := by decide +kernel
theorem dX10_readOrder_10 : decode cX10_readOrder 10 = .ok (.iconst 1, 1) := by decide +kernel
theorem dX10_readOrder_11 : decode cX10_readOrder 11 = .ok (.invokevirtual 216, 3) := by decide +kernel
theorem dX10_readOrder_14 : decode cX10_readOrder 14 = .ok (.aload_n 0, 1) := by decide +kernel
theorem dX10_readOrder_15 : decode cX10_readOrder 15 = .ok (.invokevirtual 220, 3) := by decide +kernel
theorem dX10_readOrder_18 : decode cX10_readOrder 18 = .ok (.lstore_n 1, 1) := by decide +kernel
theorem dX10_readOrder_19 : decode cX10_readOrder 19 = .ok (.aload_n 0, 1) := by decide +kernel
theorem dX10_readOrder_20 : decode cX10_readOrder 20 = .ok (.ldc_w 299, 3) := by decide +kernel
theorem dX10_readOrder_23 : decode cX10_readOrder 23 = .ok (.invokevirtual 147, 3) := by decide +kernel
theorem dX10_readOrder_26 : decode cX10_readOrder 26 = .ok (.aload_n 0, 1) := by decide +kernel
theorem dX10_readOrder_27 : decode cX10_readOrder 27 = .ok (.invokevirtual 178, 3) := by decide +kernel
theorem dX10_readOrder_30 : decode cX10_readOrder 30 = .ok (.ifCond .ne 8, 3) := by decide +kernel
theorem dX10_readOrder_33 : decode cX10_readOrder 33 = .ok (.aload_n 0, 1) := by decide +kernel
theorem dX10_readOrder_34 : decode cX10_readOrder 34 = .ok (.iconst 1, 1) := by decide +kernel
theorem dX10_readOrder_35 : decode cX10_readOrder 35 = .ok (.invokevirtual 135, 3) := by decide +kernel
theorem dX10_readOrder_38 : decode cX10_readOrder 38 = .ok (.aload_n 0, 1) := by decide +kernel
theorem dX10_readOrder_39 : decode cX10_readOrder 39 = .ok (.getfield 170, 3) := by decide +kernel
theorem dX10_readOrder_42 : decode cX10_readOrder 42 = .ok (.aload_n 0, 1) := by decide +kernel
theorem dX10_readOrder_43 : decode cX10_readOrder 43 = .ok (.getfield 108, 3) := by decide +kernel
theorem dX10_readOrder_46 : decode cX10_readOrder 46 = .ok (.invokevirtual 182, 3) := by decide +kernel
theorem dX10_readOrder_49 : decode cX10_readOrder 49 = .ok (.istore_n 3, 1) := by decide +kernel
theorem dX10_readOrder_50 : decode cX10_readOrder 50 = .ok (.iload_n 3, 1) := by decide +kernel
theorem dX10_readOrder_51 : decode cX10_readOrder 51 = .ok (.iconst (-1), 1) := by decide +kernel
theorem dX10_readOrder_52 : decode cX10_readOrder 52 = .ok (.if_icmp .eq 16, 3) := by decide +kernel
theorem dX10_readOrder_55 : decode cX10_readOrder 55 = .ok (.aload_n 0, 1) := by decide +kernel
theorem dX10_readOrder_56 : decode cX10_readOrder 56 = .ok (.getfield 170, 3) := by decide +kernel
theorem dX10_readOrder_59 : decode cX10_readOrder 59 = .ok (.getfield 301, 3) := by decide +kernel
theorem dX10_readOrder_62 : decode cX10_readOrder 62 = .ok (.iload_n 3, 1) := by decide +kernel
theorem dX10_readOrder_63 : decode cX10_readOrder 63 = .ok (.iaload, 1) := by decide +kernel
theorem dX10_readOrder_64 : decode cX10_readOrder 64 = .ok (.iconst (-1), 1) := by decide +kernel
theorem dX10_readOrder_65 : decode cX10_readOrder 65 = .ok (.if_icmp .ne 8, 3) := by decide +kernel
theorem dX10_readOrder_68 : decode cX10_readOrder 68 = .ok (.aload_n 0, 1) := by decide +kernel
theorem dX10_readOrder_69 : decode cX10_readOrder 69 = .ok (.iconst 2, 1) := by decide +kernel
theorem dX10_readOrder_70 : decode cX10_readOrder 70 = .ok (.invokevirtual 135, 3) := by decide +kernel
theorem dX10_readOrder_73 : decode cX10_readOrder 73 = .ok (.aload_n 0, 1) := by decide +kernel
theorem dX10_readOrder_74 : decode cX10_readOrder 74 = .ok (.getfield 89, 3) := by decide +kernel
theorem dX10_readOrder_77 : decode cX10_readOrder 77 = .ok (.iconst 5, 1) := by decide +kernel
theorem dX10_readOrder_78 : decode cX10_readOrder 78 = .ok (.if_icmp .ne 7, 3) := by decide +kernel
theorem dX10_readOrder_81 : decode cX10_readOrder 81 = .ok (.iconst 0, 1) := by decide +kernel
theorem dX10_readOrder_82 : decode cX10_readOrder 82 = .ok (.goto 12, 3) := by decide +kernel
theorem dX10_readOrder_85 : decode cX10_readOrder 85 = .ok (.aload_n 0, 1) := by decide +kernel
theorem dX10_readOrder_86 : decode cX10_readOrder 86 = .ok (.getfield 170, 3) := by decide +kernel
theorem dX10_readOrder_89 : decode cX10_readOrder 89 = .ok (.getfield 301, 3) := by decide +kernel
theorem dX10_readOrder_92 : decode cX10_readOrder 92 = .ok (.iload_n 3, 1) := by decide +kernel
theorem dX10_readOrder_93 : decode cX10_readOrder 93 = .ok (.iaload, 1) := by decide +kernel
theorem dX10_readOrder_94 : decode cX10_readOrder 94 = .ok (.istore 4, 2) := by decide +kernel
theorem dX10_readOrder_96 : decode cX10_readOrder 96 = .ok (.aload_n 0, 1) := by decide +kernel
theorem dX10_readOrder_97 : decode cX10_readOrder 97 = .ok (.invokevirtual 132, 3) := by decide +kernel
theorem dX10_readOrder_100 : decode cX10_readOrder 100 = .ok (.aload_n 0, 1) := by decide +kernel
theorem dX10_readOrder_101 : decode cX10_readOrder 101 = .ok (.ldc_w 304, 3) := by decide +kernel
theorem dX10_readOrder_104 : decode cX10_readOrder 104 = .ok (.iconst 0, 1) := by decide +kernel
theorem dX10_readOrder_105 : decode cX10_readOrder 105 = .ok (.aload_n 0, 1) := by decide +kernel
theorem dX10_readOrder_106 : decode cX10_readOrder 106 = .ok (.getfield 170, 3) := by decide +kernel
theorem dX10_readOrder_109 : decode cX10_readOrder 109 = .ok (.getfield 174, 3) := by decide +kernel
theorem dX10_readOrder_112 : decode cX10_readOrder 112 = .ok (.iconst 1, 1) := by decide +kernel
theorem dX10_readOrder_113 : decode cX10_readOrder 113 = .ok (.isub, 1) := by decide +kernel
theorem dX10_readOrder_114 : decode cX10_readOrder 114 = .ok (.invokevirtual 225, 3) := by decide +kernel
theorem dX10_readOrder_117 : decode cX10_readOrder 117 = .ok (.istore 5, 2) := by decide +kernel
theorem dX10_readOrder_119 : decode cX10_readOrder 119 = .ok (.aload_n 0, 1) := by decide +kernel
theorem dX10_readOrder_120 : decode cX10_readOrder 120 = .ok (.bipush 44, 2) := by decide +kernel
theorem dX10_readOrder_122 : decode cX10_readOrder 122 = .ok (.invokevirtual 306, 3) := by decide +kernel
theorem dX10_readOrder_125 : decode cX10_readOrder 125 = .ok (.aload_n 0, 1) := by decide +kernel
theorem dX10_readOrder_126 : decode cX10_readOrder 126 = .ok (.iconst 0, 1) := by decide +kernel
theorem dX10_readOrder_127 : decode cX10_readOrder 127 = .ok (.bipush 11, 2) := by decide +kernel
theorem dX10_readOrder_129 : decode cX10_readOrder 129 = .ok (.invokevirtual 151, 3) := by decide +kernel
theorem dX10_readOrder_132 : decode cX10_readOrder 132 = .ok (.istore 6, 2) := by decide +kernel
theorem dX10_readOrder_134 : decode cX10_readOrder 134 = .ok (.aload_n 0, 1) := by decide +kernel
theorem dX10_readOrder_135 : decode cX10_readOrder 135 = .ok (.ldc_w 309, 3) := by decide +kernel
theorem dX10_readOrder_138 : decode cX10_readOrder 138 = .ok (.iconst 0, 1) := by decide +kernel
theorem dX10_readOrder_139 : decode cX10_readOrder 139 = .ok (.aload_n 0, 1) := by decide +kernel
theorem dX10_readOrder_140 : decode cX10_readOrder 140 = .ok (.getfield 170, 3) := by decide +kernel
theorem dX10_readOrder_143 : decode cX10_readOrder 143 = .ok (.getfield 174, 3) := by decide +kernel
theorem dX10_readOrder_146 : decode cX10_readOrder 146 = .ok (.iconst 1, 1) := by decide +kernel
theorem dX10_readOrder_147 : decode cX10_readOrder 147 = .ok (.isub, 1) := by decide +kernel
theorem dX10_readOrder_148 : decode cX10_readOrder 148 = .ok (.invokevirtual 225, 3) := by decide +kernel
theorem dX10_readOrder_151 : decode cX10_readOrder 151 = .ok (.istore 7, 2) := by decide +kernel
theorem dX10_readOrder_153 : decode cX10_readOrder 153 = .ok (.aload_n 0, 1) := by decide +kernel
theorem dX10_readOrder_154 : decode cX10_readOrder 154 = .ok (.bipush 44, 2) := by decide +kernel
theorem dX10_readOrder_156 : decode cX10_readOrder 156 = .ok (.invokevirtual 306, 3) := by decide +kernel
theorem dX10_readOrder_159 : decode cX10_readOrder 159 = .ok (.aload_n 0, 1) := by decide +kernel
theorem dX10_readOrder_160 : decode cX10_readOrder 160 = .ok (.iconst 0, 1) := by decide +kernel
theorem dX10_readOrder_161 : decode cX10_readOrder 161 = .ok (.bipush 11, 2) := by decide +kernel
theorem dX10_readOrder_163 : decode cX10_readOrder 163 = .ok (.invokevirtual 151, 3) := by decide +kernel
theorem dX10_readOrder_166 : decode cX10_readOrder 166 = .ok (.istore 8, 2) := by decide +kernel
theorem dX10_readOrder_168 : decode cX10_readOrder 168 = .ok (.aload_n 0, 1) := by decide +kernel
theorem dX10_readOrder_169 : decode cX10_readOrder 169 = .ok (.ldc_w 311, 3) := by decide +kernel
theorem dX10_readOrder_172 : decode cX10_readOrder 172 = .ok (.iconst 0, 1) := by decide +kernel
theorem dX10_readOrder_173 : decode cX10_readOrder 173 = .ok (.bipush 23, 2) := by decide +kernel
theorem dX10_readOrder_175 : decode cX10_readOrder 175 = .ok (.invokevirtual 225, 3) := by decide +kernel
theorem dX10_readOrder_178 : decode cX10_readOrder 178 = .ok (.istore 9, 2) := by decide +kernel
theorem dX10_readOrder_180 : decode cX10_readOrder 180 = .ok (.aload_n 0, 1) := by decide +kernel
theorem dX10_readOrder_181 : decode cX10_readOrder 181 = .ok (.getfield 89, 3) := by decide +kernel
theorem dX10_readOrder_184 : decode cX10_readOrder 184 = .ok (.iconst 5, 1) := by decide +kernel
theorem dX10_readOrder_185 : decode cX10_readOrder 185 = .ok (.if_icmp .ne 4, 3) := by decide +kernel
theorem dX10_readOrder_188 : decode cX10_readOrder 188 = .ok (.return_, 1) := by decide +kernel
theorem dX10_readOrder_189 : decode cX10_readOrder 189 = .ok (.aload_n 0, 1) := by decide +kernel
theorem dX10_readOrder_190 : decode cX10_readOrder 190 = .ok (.getfield 170, 3) := by decide +kernel
theorem dX10_readOrder_193 : decode cX10_readOrder 193 = .ok (.getfield 296, 3) := by decide +kernel
theorem dX10_readOrder_196 : decode cX10_readOrder 196 = .ok (.istore 10, 2) := by decide +kernel
theorem dX10_readOrder_198 : decode cX10_readOrder 198 = .ok (.aload_n 0, 1) := by decide +kernel
theorem dX10_readOrder_199 : decode cX10_readOrder 199 = .ok (.getfield 170, 3) := by decide +kernel
theorem dX10_readOrder_202 : decode cX10_readOrder 202 = .ok (.lload_n 1, 1) := by decide +kernel
theorem dX10_readOrder_203 : decode cX10_readOrder 203 = .ok (.iconst (-1), 1) := by decide +kernel
theorem dX10_readOrder_204 : decode cX10_readOrder 204 = .ok (.invokevirtual 238, 3) := by decide +kernel
theorem dX10_readOrder_207 : decode cX10_readOrder 207 = .ok (.aload_n 0, 1) := by decide +kernel
theorem dX10_readOrder_208 : decode cX10_readOrder 208 = .ok (.getfield 170, 3) := by decide +kernel
theorem dX10_readOrder_211 : decode cX10_readOrder 211 = .ok (.getfield 313, 3) := by decide +kernel
theorem dX10_readOrder_214 : decode cX10_readOrder 214 = .ok (.iload 10, 2) := by decide +kernel
theorem dX10_readOrder_216 : decode cX10_readOrder 216 = .ok (.iload 4, 2) := by decide +kernel
theorem dX10_readOrder_218 : decode cX10_readOrder 218 = .ok (.iastore, 1) := by decide +kernel
theorem dX10_readOrder_219 : decode cX10_readOrder 219 = .ok (.aload_n 0, 1) := by decide +kernel
theorem dX10_readOrder_220 : decode cX10_readOrder 220 = .ok (.getfield 170, 3) := by decide +kernel
theorem dX10_readOrder_223 : decode cX10_readOrder 223 = .ok (.getfield 315, 3) := by decide +kernel
theorem dX10_readOrder_226 : decode cX10_readOrder 226 = .ok (.iload 10, 2) := by decide +kernel
theorem dX10_readOrder_228 : decode cX10_readOrder 228 = .ok (.iload 5, 2) := by decide +kernel
theorem dX10_readOrder_230 : decode cX10_readOrder 230 = .ok (.iastore, 1) := by decide +kernel
theorem dX10_readOrder_231 : decode cX10_readOrder 231 = .ok (.aload_n 0, 1) := by decide +kernel
theorem dX10_readOrder_232 : decode cX10_readOrder 232 = .ok (.getfield 170, 3) := by decide +kernel
theorem dX10_readOrder_235 : decode cX10_readOrder 235 = .ok (.getfield 318, 3) := by decide +kernel
theorem dX10_readOrder_238 : decode cX10_readOrder 238 = .ok (.iload 10, 2) := by decide +kernel
theorem dX10_readOrder_240 : decode cX10_readOrder 240 = .ok (.iload 6, 2) := by decide +kernel
theorem dX10_readOrder_242 : decode cX10_readOrder 242 = .ok (.iastore, 1) := by decide +kernel
theorem dX10_readOrder_243 : decode cX10_readOrder 243 = .ok (.aload_n 0, 1) := by decide +kernel
theorem dX10_readOrder_244 : decode cX10_readOrder 244 = .ok (.getfield 170, 3) := by decide +kernel
theorem dX10_readOrder_247 : decode cX10_readOrder 247 = .ok (.getfield 321, 3) := by decide +kernel
theorem dX10_readOrder_250 : decode cX10_readOrder 250 = .ok (.iload 10, 2) := by decide +kernel
theorem dX10_readOrder_252 : decode cX10_readOrder 252 = .ok (.iload 7, 2) := by decide +kernel
theorem dX10_readOrder_254 : decode cX10_readOrder 254 = .ok (.iastore, 1) := by decide +kernel
theorem dX10_readOrder_255 : decode cX10_readOrder 255 = .ok (.aload_n 0, 1) := by decide +kernel
theorem dX10_readOrder_256 : decode cX10_readOrder 256 = .ok (.getfield 170, 3) := by decide +kernel
theorem dX10_readOrder_259 : decode cX10_readOrder 259 = .ok (.getfield 324, 3) := by decide +kernel
theorem dX10_readOrder_262 : decode cX10_readOrder 262 = .ok (.iload 10, 2) := by decide +kernel
theorem dX10_readOrder_264 : decode cX10_readOrder 264 = .ok (.iload 8, 2) := by decide +kernel
theorem dX10_readOrder_266 : decode cX10_readOrder 266 = .ok (.iastore, 1) := by decide +kernel
theorem dX10_readOrder_267 : decode cX10_readOrder 267 = .ok (.aload_n 0, 1) := by decide +kernel
theorem dX10_readOrder_268 : decode cX10_readOrder 268 = .ok (.getfield 170, 3) := by decide +kernel
theorem dX10_readOrder_271 : decode cX10_readOrder 271 = .ok (.getfield 327, 3) := by decide +kernel
theorem dX10_readOrder_274 : decode cX10_readOrder 274 = .ok (.iload 10, 2) := by decide +kernel
theorem dX10_readOrder_276 : decode cX10_readOrder 276 = .ok (.iload 9, 2) := by decide +kernel
theorem dX10_readOrder_278 : decode cX10_readOrder 278 = .ok (.iastore, 1) := by decide +kernel
theorem dX10_readOrder_279 : decode cX10_readOrder 279 = .ok (.aload_n 0, 1) := by decide +kernel
theorem dX10_readOrder_280 : decode cX10_readOrder 280 = .ok (.getfield 170, 3) := by decide +kernel
theorem dX10_readOrder_283 : decode cX10_readOrder 283 = .ok (.dup, 1) := by decide +kernel
theorem dX10_readOrder_284 : decode cX10_readOrder 284 = .ok (.getfield 296, 3) := by decide +kernel
theorem dX10_readOrder_287 : decode cX10_readOrder 287 = .ok (.iconst 1, 1) := by decide +kernel
theorem dX10_readOrder_288 : decode cX10_readOrder 288 = .ok (.iadd, 1) := by decide +kernel
theorem dX10_readOrder_289 : decode cX10_readOrder 289 = .ok (.putfield 296, 3) := by decide +kernel
theorem dX10_readOrder_292 : decode cX10_readOrder 292 = .ok (.return_, 1) := by decide +kernel
theorem dX10_readPart_0 : decode cX10_readPart 0 = .ok (.aload_n 0, 1) := by decide +kernel
theorem dX10_readPart_1 : decode cX10_readPart 1 = .ok (.aload_n 1, 1) := by decide +kernel
theorem dX10_readPart_2 : decode cX10_readPart 2 = .ok (.invokevirtual 147, 3) := by decide +kernel
theorem dX10_readPart_5 : decode cX10_readPart 5 = .ok (.aload_n 0, 1) := by decide +kernel
theorem dX10_readPart_6 : decode cX10_readPart 6 = .ok (.iload_n 2, 1) := by decide +kernel
theorem dX10_readPart_7 : decode cX10_readPart 7 = .ok (.iload_n 3, 1) := by decide +kernel
theorem dX10_readPart_8 : decode cX10_readPart 8 = .ok (.invokevirtual 151, 3) := by decide +kernel
theorem dX10_readPart_11 : decode cX10_readPart 11 = .ok (.ireturn, 1) := by decide +kernel
theorem dX10_readRings_0 : decode cX10_readRings 0 = .ok (.aload_n 0, 1) := by decide +kernel
theorem dX10_readRings_1 : decode cX10_readRings 1 = .ok (.getfield 170, 3) := by decide +kernel
theorem dX10_readRings_4 : decode cX10_readRings 4 = .ok (.getfield 174, 3) := by decide +kernel
theorem dX10_readRings_7 : decode cX10_readRings 7 = .ok (.ifCond .le 8, 3) := by decide +kernel
theorem dX10_readRings_10 : decode cX10_readRings 10 = .ok (.aload_n 0, 1) := by decide +kernel
theorem dX10_readRings_11 : decode cX10_readRings 11 = .ok (.iconst 3, 1) := by decide +kernel
theorem dX10_readRings_12 : decode cX10_readRings 12 = .ok (.invokevirtual 135, 3) := by decide +kernel
theorem dX10_readRings_15 : decode cX10_readRings 15 = .ok (.aload_n 0, 1) := by decide +kernel
theorem dX10_readRings_16 : decode cX10_readRings 16 = .ok (.invokevirtual 132, 3) := by decide +kernel
theorem dX10_readRings_19 : decode cX10_readRings 19 = .ok (.iconst 0, 1) := by decide +kernel
theorem dX10_readRings_20 : decode cX10_readRings 20 = .ok (.istore_n 1, 1) := by decide +kernel
theorem dX10_readRings_21 : decode cX10_readRings 21 = .ok (.iconst 1, 1) := by decide +kernel
theorem dX10_readRings_22 : decode cX10_readRings 22 = .ok (.istore_n 2, 1) := by decide +kernel
theorem dX10_readRings_23 : decode cX10_readRings 23 = .ok (.iload_n 2, 1) := by decide +kernel
theorem dX10_readRings_24 : decode cX10_readRings 24 = .ok (.ifCond .eq 94, 3) := by decide +kernel
theorem dX10_readRings_27 : decode cX10_readRings 27 = .ok (.aload_n 0, 1) := by decide +kernel
theorem dX10_readRings_28 : decode cX10_readRings 28 = .ok (.getfield 89, 3) := by decide +kernel
theorem dX10_readRings_31 : decode cX10_readRings 31 = .ok (.iconst 5, 1) := by decide +kernel
theorem dX10_readRings_32 : decode cX10_readRings 32 = .ok (.if_icmp .eq 86, 3) := by decide +kernel
theorem dX10_readRings_35 : decode cX10_readRings 35 = .ok (.aload_n 0, 1) := by decide +kernel
theorem dX10_readRings_36 : decode cX10_readRings 36 = .ok (.getfield 89, 3) := by decide +kernel
theorem dX10_readRings_39 : decode cX10_readRings 39 = .ok (.iconst 3, 1) := by decide +kernel
theorem dX10_readRings_40 : decode cX10_readRings 40 = .ok (.if_icmp .ne 14, 3) := by decide +kernel
theorem dX10_readRings_43 : decode cX10_readRings 43 = .ok (.iload_n 1, 1) := by decide +kernel
theorem dX10_readRings_44 : decode cX10_readRings 44 = .ok (.bipush 6, 2) := by decide +kernel
theorem dX10_readRings_46 : decode cX10_readRings 46 = .ok (.if_icmp .ne 8, 3) := by decide +kernel
theorem dX10_readRings_49 : decode cX10_readRings 49 = .ok (.aload_n 0, 1) := by decide +kernel
theorem dX10_readRings_50 : decode cX10_readRings 50 = .ok (.iconst 5, 1) := by decide +kernel
theorem dX10_readRings_51 : decode cX10_readRings 51 = .ok (.invokevirtual 135, 3) := by decide +kernel
theorem dX10_readRings_54 : decode cX10_readRings 54 = .ok (.aload_n 0, 1) := by decide +kernel
theorem dX10_readRings_55 : decode cX10_readRings 55 = .ok (.iconst 1, 1) := by decide +kernel
theorem dX10_readRings_56 : decode cX10_readRings 56 = .ok (.iload_n 1, 1) := by decide +kernel
theorem dX10_readRings_57 : decode cX10_readRings 57 = .ok (.ifCond .eq 9, 3) := by decide +kernel
theorem dX10_readRings_60 : decode cX10_readRings 60 = .ok (.iload_n 1, 1) := by decide +kernel
theorem dX10_readRings_61 : decode cX10_readRings 61 = .ok (.bipush 6, 2) := by decide +kernel
theorem dX10_readRings_63 : decode cX10_readRings 63 = .ok (.if_icmp .ne 8, 3) := by decide +kernel
theorem dX10_readRings_66 : decode cX10_readRings 66 = .ok (.bipush 99, 2) := by decide +kernel
theorem dX10_readRings_68 : decode cX10_readRings 68 = .ok (.goto 14, 3) := by decide +kernel
theorem dX10_readRings_71 : decode cX10_readRings 71 = .ok (.aload_n 0, 1) := by decide +kernel
theorem dX10_readRings_72 : decode cX10_readRings 72 = .ok (.getfield 170, 3) := by decide +kernel
theorem dX10_readRings_75 : decode cX10_readRings 75 = .ok (.getfield 210, 3) := by decide +kernel
theorem dX10_readRings_78 : decode cX10_readRings 78 = .ok (.iload_n 1, 1) := by decide +kernel
theorem dX10_readRings_79 : decode cX10_readRings 79 = .ok (.iconst 1, 1) := by decide +kernel
theorem dX10_readRings_80 : decode cX10_readRings 80 = .ok (.isub, 1) := by decide +kernel
theorem dX10_readRings_81 : decode cX10_readRings 81 = .ok (.iaload, 1) := by decide +kernel
theorem dX10_readRings_82 : decode cX10_readRings 82 = .ok (.invokevirtual 151, 3) := by decide +kernel
theorem dX10_readRings_85 : decode cX10_readRings 85 = .ok (.istore_n 3, 1) := by decide +kernel
theorem dX10_readRings_86 : decode cX10_readRings 86 = .ok (.aload_n 0, 1) := by decide +kernel
theorem dX10_readRings_87 : decode cX10_readRings 87 = .ok (.getfield 89, 3) := by decide +kernel
theorem dX10_readRings_90 : decode cX10_readRings 90 = .ok (.iconst 5, 1) := by decide +kernel
theorem dX10_readRings_91 : decode cX10_readRings 91 = .ok (.if_icmp .ne 4, 3) := by decide +kernel
theorem dX10_readRings_94 : decode cX10_readRings 94 = .ok (.return_, 1) := by decide +kernel
theorem dX10_readRings_95 : decode cX10_readRings 95 = .ok (.aload_n 0, 1) := by decide +kernel
theorem dX10_readRings_96 : decode cX10_readRings 96 = .ok (.getfield 170, 3) := by decide +kernel
theorem dX10_readRings_99 : decode cX10_readRings 99 = .ok (.getfield 210, 3) := by decide +kernel
theorem dX10_readRings_102 : decode cX10_readRings 102 = .ok (.iload_n 1, 1) := by decide +kernel
theorem dX10_readRings_103 : decode cX10_readRings 103 = .ok (.iload_n 3, 1) := by decide +kernel
theorem dX10_readRings_104 : decode cX10_readRings 104 = .ok (.iastore, 1) := by decide +kernel
theorem dX10_readRings_105 : decode cX10_readRings 105 = .ok (.iinc 1 1, 3) := by decide +kernel
theorem dX10_readRings_108 : decode cX10_readRings 108 = .ok (.aload_n 0, 1) := by decide +kernel
theorem dX10_readRings_109 : decode cX10_readRings 109 = .ok (.bipush 44, 2) := by decide +kernel
theorem dX10_readRings_111 : decode cX10_readRings 111 = .ok (.invokevirtual 189, 3) := by decide +kernel
theorem dX10_readRings_114 : decode cX10_readRings 114 = .ok (.istore_n 2, 1) := by decide +kernel
theorem dX10_readRings_115 : decode cX10_readRings 115 = .ok (.goto (-92), 3) := by decide +kernel
theorem dX10_readRings_118 : decode cX10_readRings 118 = .ok (.iload_n 1, 1) := by decide +kernel
theorem dX10_readRings_119 : decode cX10_readRings 119 = .ok (.iconst 2, 1) := by decide +kernel
theorem dX10_readRings_120 : decode cX10_readRings 120 = .ok (.if_icmp .ge 8, 3) := by decide +kernel
theorem dX10_readRings_123 : decode cX10_readRings 123 = .ok (.aload_n 0, 1) := by decide +kernel
theorem dX10_readRings_124 : decode cX10_readRings 124 = .ok (.iconst 1, 1) := by decide +kernel
theorem dX10_readRings_125 : decode cX10_readRings 125 = .ok (.invokevirtual 135, 3) := by decide +kernel
theorem dX10_readRings_128 : decode cX10_readRings 128 = .ok (.aload_n 0, 1) := by decide +kernel
theorem dX10_readRings_129 : decode cX10_readRings 129 = .ok (.getfield 89, 3) := by decide +kernel
theorem dX10_readRings_132 : decode cX10_readRings 132 = .ok (.iconst 5, 1) := by decide +kernel
theorem dX10_readRings_133 : decode cX10_readRings 133 = .ok (.if_icmp .eq 11, 3) := by decide +kernel
theorem dX10_readRings_136 : decode cX10_readRings 136 = .ok (.aload_n 0, 1) := by decide +kernel
theorem dX10_readRings_137 : decode cX10_readRings 137 = .ok (.getfield 170, 3) := by decide +kernel
theorem dX10_readRings_140 : decode cX10_readRings 140 = .ok (.iload_n 1, 1) := by decide +kernel
theorem dX10_readRings_141 : decode cX10_readRings 141 = .ok (.putfield 174, 3) := by decide +kernel
theorem dX10_readRings_144 : decode cX10_readRings 144 = .ok (.return_, 1) := by decide +kernel
theorem dX10_readStore_0 : decode cX10_readStore 0 = .ok (.aload_n 0, 1) := by decide +kernel
theorem dX10_readStore_1 : decode cX10_readStore 1 = .ok (.iconst 0, 1) := by decide +kernel
theorem dX10_readStore_2 : decode cX10_readStore 2 = .ok (.iconst 1, 1) := by decide +kernel
theorem dX10_readStore_3 : decode cX10_readStore 3 = .ok (.iconst 1, 1) := by decide +kernel
theorem dX10_readStore_4 : decode cX10_readStore 4 = .ok (.invokevirtual 216, 3) := by decide +kernel
theorem dX10_readStore_7 : decode cX10_readStore 7 = .ok (.aload_n 0, 1) := by decide +kernel
theorem dX10_readStore_8 : decode cX10_readStore 8 = .ok (.iconst 0, 1) := by decide +kernel
theorem dX10_readStore_9 : decode cX10_readStore 9 = .ok (.aload_n 0, 1) := by decide +kernel
theorem dX10_readStore_10 : decode cX10_readStore 10 = .ok (.getfield 170, 3) := by decide +kernel
theorem dX10_readStore_13 : decode cX10_readStore 13 = .ok (.getfield 174, 3) := by decide +kernel
theorem dX10_readStore_16 : decode cX10_readStore 16 = .ok (.iconst 1, 1) := by decide +kernel
theorem dX10_readStore_17 : decode cX10_readStore 17 = .ok (.isub, 1) := by decide +kernel
theorem dX10_readStore_18 : decode cX10_readStore 18 = .ok (.invokevirtual 143, 3) := by decide +kernel
theorem dX10_readStore_21 : decode cX10_readStore 21 = .ok (.istore_n 1, 1) := by decide +kernel
theorem dX10_readStore_22 : decode cX10_readStore 22 = .ok (.aload_n 0, 1) := by decide +kernel
theorem dX10_readStore_23 : decode cX10_readStore 23 = .ok (.getfield 89, 3) := by decide +kernel
theorem dX10_readStore_26 : decode cX10_readStore 26 = .ok (.iconst 5, 1) := by decide +kernel
theorem dX10_readStore_27 : decode cX10_readStore 27 = .ok (.if_icmp .eq 20, 3) := by decide +kernel
theorem dX10_readStore_30 : decode cX10_readStore 30 = .ok (.aload_n 0, 1) := by decide +kernel
theorem dX10_readStore_31 : decode cX10_readStore 31 = .ok (.getfield 170, 3) := by decide +kernel
theorem dX10_readStore_34 : decode cX10_readStore 34 = .ok (.getfield 259, 3) := by decide +kernel
theorem dX10_readStore_37 : decode cX10_readStore 37 = .ok (.iload_n 1, 1) := by decide +kernel
theorem dX10_readStore_38 : decode cX10_readStore 38 = .ok (.baload, 1) := by decide +kernel
theorem dX10_readStore_39 : decode cX10_readStore 39 = .ok (.ifCond .eq 8, 3) := by decide +kernel
theorem dX10_readStore_42 : decode cX10_readStore 42 = .ok (.aload_n 0, 1) := by decide +kernel
theorem dX10_readStore_43 : decode cX10_readStore 43 = .ok (.iconst 3, 1) := by decide +kernel
theorem dX10_readStore_44 : decode cX10_readStore 44 = .ok (.invokevirtual 135, 3) := by decide +kernel
theorem dX10_readStore_47 : decode cX10_readStore 47 = .ok (.aload_n 0, 1) := by decide +kernel
theorem dX10_readStore_48 : decode cX10_readStore 48 = .ok (.invokevirtual 132, 3) := by decide +kernel
theorem dX10_readStore_51 : decode cX10_readStore 51 = .ok (.aload_n 0, 1) := by decide +kernel
theorem dX10_readStore_52 : decode cX10_readStore 52 = .ok (.ldc_w 263, 3) := by decide +kernel
theorem dX10_readStore_55 : decode cX10_readStore 55 = .ok (.iconst 0, 1) := by decide +kernel
theorem dX10_readStore_56 : decode cX10_readStore 56 = .ok (.sipush 999, 3) := by decide +kernel
theorem dX10_readStore_59 : decode cX10_readStore 59 = .ok (.invokevirtual 225, 3) := by decide +kernel
theorem dX10_readStore_62 : decode cX10_readStore 62 = .ok (.istore_n 2, 1) := by decide +kernel
theorem dX10_readStore_63 : decode cX10_readStore 63 = .ok (.aload_n 0, 1) := by decide +kernel
theorem dX10_readStore_64 : decode cX10_readStore 64 = .ok (.ldc_w 265, 3) := by decide +kernel
theorem dX10_readStore_67 : decode cX10_readStore 67 = .ok (.iconst 0, 1) := by decide +kernel
theorem dX10_readStore_68 : decode cX10_readStore 68 = .ok (.bipush 99, 2) := by decide +kernel
theorem dX10_readStore_70 : decode cX10_readStore 70 = .ok (.invokevirtual 225, 3) := by decide +kernel
theorem dX10_readStore_73 : decode cX10_readStore 73 = .ok (.istore_n 3, 1) := by decide +kernel
theorem dX10_readStore_74 : decode cX10_readStore 74 = .ok (.aload_n 0, 1) := by decide +kernel
theorem dX10_readStore_75 : decode cX10_readStore 75 = .ok (.getfield 89, 3) := by decide +kernel
theorem dX10_readStore_78 : decode cX10_readStore 78 = .ok (.iconst 5, 1) := by decide +kernel
theorem dX10_readStore_79 : decode cX10_readStore 79 = .ok (.if_icmp .ne 4, 3) := by decide +kernel
theorem dX10_readStore_82 : decode cX10_readStore 82 = .ok (.return_, 1) := by decide +kernel
theorem dX10_readStore_83 : decode cX10_readStore 83 = .ok (.aload_n 0, 1) := by decide +kernel
theorem dX10_readStore_84 : decode cX10_readStore 84 = .ok (.getfield 170, 3) := by decide +kernel
theorem dX10_readStore_87 : decode cX10_readStore 87 = .ok (.getfield 259, 3) := by decide +kernel
theorem dX10_readStore_90 : decode cX10_readStore 90 = .ok (.iload_n 1, 1) := by decide +kernel
theorem dX10_readStore_91 : decode cX10_readStore 91 = .ok (.iconst 1, 1) := by decide +kernel
theorem dX10_readStore_92 : decode cX10_readStore 92 = .ok (.bastore, 1) := by decide +kernel
theorem dX10_readStore_93 : decode cX10_readStore 93 = .ok (.aload_n 0, 1) := by decide +kernel
theorem dX10_readStore_94 : decode cX10_readStore 94 = .ok (.getfield 170, 3) := by decide +kernel
theorem dX10_readStore_97 : decode cX10_readStore 97 = .ok (.getfield 267, 3) := by decide +kernel
theorem dX10_readStore_100 : decode cX10_readStore 100 = .ok (.iload_n 1, 1) := by decide +kernel
theorem dX10_readStore_101 : decode cX10_readStore 101 = .ok (.iload_n 2, 1) := by decide +kernel
theorem dX10_readStore_102 : decode cX10_readStore 102 = .ok (.iastore, 1) := by decide +kernel
theorem dX10_readStore_103 : decode cX10_readStore 103 = .ok (.aload_n 0, 1) := by decide +kernel
theorem dX10_readStore_104 : decode cX10_readStore 104 = .ok (.getfield 170, 3) := by decide +kernel
theorem dX10_readStore_107 : decode cX10_readStore 107 = .ok (.getfield 269, 3) := by decide +kernel
theorem dX10_readStore_110 : decode cX10_readStore 110 = .ok (.iload_n 1, 1) := by decide +kernel
theorem dX10_readStore_111 : decode cX10_readStore 111 = .ok (.iload_n 3, 1) := by decide +kernel
theorem dX10_readStore_112 : decode cX10_readStore 112 = .ok (.iastore, 1) := by decide +kernel
theorem dX10_readStore_113 : decode cX10_readStore 113 = .ok (.return_, 1) := by decide +kernel
theorem dX10_readWhole_0 : decode cX10_readWhole 0 = .ok (.aload_n 0, 1) := by decide +kernel
theorem dX10_readWhole_1 : decode cX10_readWhole 1 = .ok (.iload_n 1, 1) := by decide +kernel
theorem dX10_readWhole_2 : decode cX10_readWhole 2 = .ok (.iload_n 2, 1) := by decide +kernel
theorem dX10_readWhole_3 : decode cX10_readWhole 3 = .ok (.invokevirtual 143, 3) := by decide +kernel
theorem dX10_readWhole_6 : decode cX10_readWhole 6 = .ok (.istore_n 3, 1) := by decide +kernel
theorem dX10_readWhole_7 : decode cX10_readWhole 7 = .ok (.aload_n 0, 1) := by decide +kernel
theorem dX10_readWhole_8 : decode cX10_readWhole 8 = .ok (.invokevirtual 132, 3) := by decide +kernel
theorem dX10_readWhole_11 : decode cX10_readWhole 11 = .ok (.iload_n 3, 1) := by decide +kernel
theorem dX10_readWhole_12 : decode cX10_readWhole 12 = .ok (.ireturn, 1) := by decide +kernel
theorem dX10_refused_0 : decode cX10_refused 0 = .ok (.aload_n 0, 1) := by decide +kernel
theorem dX10_refused_1 : decode cX10_refused 1 = .ok (.iload_n 1, 1) := by decide +kernel
theorem dX10_refused_2 : decode cX10_refused 2 = .ok (.putfield 64, 3) := by decide +kernel
theorem dX10_refused_5 : decode cX10_refused 5 = .ok (.aload_n 0, 1) := by decide +kernel
theorem dX10_refused_6 : decode cX10_refused 6 = .ok (.iconst (-1), 1) := by decide +kernel
theorem dX10_refused_7 : decode cX10_refused 7 = .ok (.putfield 9, 3) := by decide +kernel
theorem dX10_refused_10 : decode cX10_refused 10 = .ok (.iconst (-1), 1) := by decide +kernel
theorem dX10_refused_11 : decode cX10_refused 11 = .ok (.ireturn, 1) := by decide +kernel
theorem dX10_round_0 : decode cX10_round 0 = .ok (.iload_n 0, 1) := by decide +kernel
theorem dX10_round_1 : decode cX10_round 1 = .ok (.iload_n 1, 1) := by decide +kernel
theorem dX10_round_2 : decode cX10_round 2 = .ok (.if_icmp .ge 9, 3) := by decide +kernel
theorem dX10_round_5 : decode cX10_round 5 = .ok (.iload_n 1, 1) := by decide +kernel
theorem dX10_round_6 : decode cX10_round 6 = .ok (.iload_n 0, 1) := by decide +kernel
theorem dX10_round_7 : decode cX10_round 7 = .ok (.isub, 1) := by decide +kernel
theorem dX10_round_8 : decode cX10_round 8 = .ok (.goto 6, 3) := by decide +kernel
theorem dX10_round_11 : decode cX10_round 11 = .ok (.iload_n 0, 1) := by decide +kernel
theorem dX10_round_12 : decode cX10_round 12 = .ok (.iload_n 1, 1) := by decide +kernel
theorem dX10_round_13 : decode cX10_round 13 = .ok (.isub, 1) := by decide +kernel
theorem dX10_round_14 : decode cX10_round 14 = .ok (.istore_n 2, 1) := by decide +kernel
theorem dX10_round_15 : decode cX10_round 15 = .ok (.iload_n 2, 1) := by decide +kernel
theorem dX10_round_16 : decode cX10_round 16 = .ok (.bipush 12, 2) := by decide +kernel
theorem dX10_round_18 : decode cX10_round 18 = .ok (.iload_n 2, 1) := by decide +kernel
theorem dX10_round_19 : decode cX10_round 19 = .ok (.isub, 1) := by decide +kernel
theorem dX10_round_20 : decode cX10_round 20 = .ok (.if_icmp .ge 7, 3) := by decide +kernel
theorem dX10_round_23 : decode cX10_round 23 = .ok (.iload_n 2, 1) := by decide +kernel
theorem dX10_round_24 : decode cX10_round 24 = .ok (.goto 7, 3) := by decide +kernel
theorem dX10_round_27 : decode cX10_round 27 = .ok (.bipush 12, 2) := by decide +kernel
theorem dX10_round_29 : decode cX10_round 29 = .ok (.iload_n 2, 1) := by decide +kernel
theorem dX10_round_30 : decode cX10_round 30 = .ok (.isub, 1) := by decide +kernel
theorem dX10_round_31 : decode cX10_round 31 = .ok (.ireturn, 1) := by decide +kernel
theorem dX10_saves_0 : decode cX10_saves 0 = .ok (.aload_n 0, 1) := by decide +kernel
theorem dX10_saves_1 : decode cX10_saves 1 = .ok (.iconst 0, 1) := by decide +kernel
theorem dX10_saves_2 : decode cX10_saves 2 = .ok (.putfield 61, 3) := by decide +kernel
theorem dX10_saves_5 : decode cX10_saves 5 = .ok (.aload_n 0, 1) := by decide +kernel
theorem dX10_saves_6 : decode cX10_saves 6 = .ok (.iload_n 1, 1) := by decide +kernel
theorem dX10_saves_7 : decode cX10_saves 7 = .ok (.invokevirtual 346, 3) := by decide +kernel
theorem dX10_saves_10 : decode cX10_saves 10 = .ok (.ifCond .ne 13, 3) := by decide +kernel
theorem dX10_saves_13 : decode cX10_saves 13 = .ok (.aload_n 0, 1) := by decide +kernel
theorem dX10_saves_14 : decode cX10_saves 14 = .ok (.iconst 1, 1) := by decide +kernel
theorem dX10_saves_15 : decode cX10_saves 15 = .ok (.invokevirtual 67, 3) := by decide +kernel
theorem dX10_saves_18 : decode cX10_saves 18 = .ok (.pop, 1) := by decide +kernel
theorem dX10_saves_19 : decode cX10_saves 19 = .ok (.sipush (-10000), 3) := by decide +kernel
theorem dX10_saves_22 : decode cX10_saves 22 = .ok (.ireturn, 1) := by decide +kernel
theorem dX10_saves_23 : decode cX10_saves 23 = .ok (.iload_n 2, 1) := by decide +kernel
theorem dX10_saves_24 : decode cX10_saves 24 = .ok (.invokestatic 510, 3) := by decide +kernel
theorem dX10_saves_27 : decode cX10_saves 27 = .ok (.ifCond .eq 10, 3) := by decide +kernel
theorem dX10_saves_30 : decode cX10_saves 30 = .ok (.iload_n 3, 1) := by decide +kernel
theorem dX10_saves_31 : decode cX10_saves 31 = .ok (.invokestatic 510, 3) := by decide +kernel
theorem dX10_saves_34 : decode cX10_saves 34 = .ok (.ifCond .ne 13, 3) := by decide +kernel
theorem dX10_saves_37 : decode cX10_saves 37 = .ok (.aload_n 0, 1) := by decide +kernel
theorem dX10_saves_38 : decode cX10_saves 38 = .ok (.iconst 2, 1) := by decide +kernel
theorem dX10_saves_39 : decode cX10_saves 39 = .ok (.invokevirtual 67, 3) := by decide +kernel
theorem dX10_saves_42 : decode cX10_saves 42 = .ok (.pop, 1) := by decide +kernel
theorem dX10_saves_43 : decode cX10_saves 43 = .ok (.sipush (-10000), 3) := by decide +kernel
theorem dX10_saves_46 : decode cX10_saves 46 = .ok (.ireturn, 1) := by decide +kernel
theorem dX10_saves_47 : decode cX10_saves 47 = .ok (.aload_n 0, 1) := by decide +kernel
theorem dX10_saves_48 : decode cX10_saves 48 = .ok (.aload_n 0, 1) := by decide +kernel
theorem dX10_saves_49 : decode cX10_saves 49 = .ok (.iload_n 1, 1) := by decide +kernel
theorem dX10_saves_50 : decode cX10_saves 50 = .ok (.iload_n 2, 1) := by decide +kernel
theorem dX10_saves_51 : decode cX10_saves 51 = .ok (.iload_n 3, 1) := by decide +kernel
theorem dX10_saves_52 : decode cX10_saves 52 = .ok (.invokevirtual 513, 3) := by decide +kernel
theorem dX10_saves_55 : decode cX10_saves 55 = .ok (.invokevirtual 71, 3) := by decide +kernel
theorem dX10_saves_58 : decode cX10_saves 58 = .ok (.ireturn, 1) := by decide +kernel
theorem dX10_savesBy_0 : decode cX10_savesBy 0 = .ok (.bipush 7, 2) := by decide +kernel
theorem dX10_savesBy_2 : decode cX10_savesBy 2 = .ok (.iload_n 1, 1) := by decide +kernel
theorem dX10_savesBy_3 : decode cX10_savesBy 3 = .ok (.imul, 1) := by decide +kernel
theorem dX10_savesBy_4 : decode cX10_savesBy 4 = .ok (.istore 4, 2) := by decide +kernel
theorem dX10_savesBy_6 : decode cX10_savesBy 6 = .ok (.aload_n 0, 1) := by decide +kernel
theorem dX10_savesBy_7 : decode cX10_savesBy 7 = .ok (.getfield 17, 3) := by decide +kernel
theorem dX10_savesBy_10 : decode cX10_savesBy 10 = .ok (.iload 4, 2) := by decide +kernel
theorem dX10_savesBy_12 : decode cX10_savesBy 12 = .ok (.iconst 2, 1) := by decide +kernel
theorem dX10_savesBy_13 : decode cX10_savesBy 13 = .ok (.iadd, 1) := by decide +kernel
theorem dX10_savesBy_14 : decode cX10_savesBy 14 = .ok (.iaload, 1) := by decide +kernel
theorem dX10_savesBy_15 : decode cX10_savesBy 15 = .ok (.istore 5, 2) := by decide +kernel
theorem dX10_savesBy_17 : decode cX10_savesBy 17 = .ok (.aload_n 0, 1) := by decide +kernel
theorem dX10_savesBy_18 : decode cX10_savesBy 18 = .ok (.getfield 17, 3) := by decide +kernel
theorem dX10_savesBy_21 : decode cX10_savesBy 21 = .ok (.iload 4, 2) := by decide +kernel
theorem dX10_savesBy_23 : decode cX10_savesBy 23 = .ok (.iconst 3, 1) := by decide +kernel
theorem dX10_savesBy_24 : decode cX10_savesBy 24 = .ok (.iadd, 1) := by decide +kernel
theorem dX10_savesBy_25 : decode cX10_savesBy 25 = .ok (.iaload, 1) := by decide +kernel
theorem dX10_savesBy_26 : decode cX10_savesBy 26 = .ok (.istore 6, 2) := by decide +kernel
theorem dX10_savesBy_28 : decode cX10_savesBy 28 = .ok (.aload_n 0, 1) := by decide +kernel
theorem dX10_savesBy_29 : decode cX10_savesBy 29 = .ok (.invokevirtual 465, 3) := by decide +kernel
theorem dX10_savesBy_32 : decode cX10_savesBy 32 = .ok (.istore 7, 2) := by decide +kernel
theorem dX10_savesBy_34 : decode cX10_savesBy 34 = .ok (.aload_n 0, 1) := by decide +kernel
theorem dX10_savesBy_35 : decode cX10_savesBy 35 = .ok (.getfield 17, 3) := by decide +kernel
theorem dX10_savesBy_38 : decode cX10_savesBy 38 = .ok (.iload 4, 2) := by decide +kernel
theorem dX10_savesBy_40 : decode cX10_savesBy 40 = .ok (.iconst 2, 1) := by decide +kernel
theorem dX10_savesBy_41 : decode cX10_savesBy 41 = .ok (.iadd, 1) := by decide +kernel
theorem dX10_savesBy_42 : decode cX10_savesBy 42 = .ok (.iload_n 2, 1) := by decide +kernel
theorem dX10_savesBy_43 : decode cX10_savesBy 43 = .ok (.iload 5, 2) := by decide +kernel
theorem dX10_savesBy_45 : decode cX10_savesBy 45 = .ok (.if_icmp .le 7, 3) := by decide +kernel
theorem dX10_savesBy_48 : decode cX10_savesBy 48 = .ok (.iload_n 2, 1) := by decide +kernel
theorem dX10_savesBy_49 : decode cX10_savesBy 49 = .ok (.goto 5, 3) := by decide +kernel
theorem dX10_savesBy_52 : decode cX10_savesBy 52 = .ok (.iload 5, 2) := by decide +kernel
theorem dX10_savesBy_54 : decode cX10_savesBy 54 = .ok (.iastore, 1) := by decide +kernel
theorem dX10_savesBy_55 : decode cX10_savesBy 55 = .ok (.aload_n 0, 1) := by decide +kernel
theorem dX10_savesBy_56 : decode cX10_savesBy 56 = .ok (.getfield 17, 3) := by decide +kernel
theorem dX10_savesBy_59 : decode cX10_savesBy 59 = .ok (.iload 4, 2) := by decide +kernel
theorem dX10_savesBy_61 : decode cX10_savesBy 61 = .ok (.iconst 3, 1) := by decide +kernel
theorem dX10_savesBy_62 : decode cX10_savesBy 62 = .ok (.iadd, 1) := by decide +kernel
theorem dX10_savesBy_63 : decode cX10_savesBy 63 = .ok (.iload_n 3, 1) := by decide +kernel
theorem dX10_savesBy_64 : decode cX10_savesBy 64 = .ok (.iload 6, 2) := by decide +kernel
theorem dX10_savesBy_66 : decode cX10_savesBy 66 = .ok (.if_icmp .le 7, 3) := by decide +kernel
theorem dX10_savesBy_69 : decode cX10_savesBy 69 = .ok (.iload_n 3, 1) := by decide +kernel
theorem dX10_savesBy_70 : decode cX10_savesBy 70 = .ok (.goto 5, 3) := by decide +kernel
theorem dX10_savesBy_73 : decode cX10_savesBy 73 = .ok (.iload 6, 2) := by decide +kernel
theorem dX10_savesBy_75 : decode cX10_savesBy 75 = .ok (.iastore, 1) := by decide +kernel
theorem dX10_savesBy_76 : decode cX10_savesBy 76 = .ok (.iload 7, 2) := by decide +kernel
theorem dX10_savesBy_78 : decode cX10_savesBy 78 = .ok (.aload_n 0, 1) := by decide +kernel
theorem dX10_savesBy_79 : decode cX10_savesBy 79 = .ok (.invokevirtual 465, 3) := by decide +kernel
theorem dX10_savesBy_82 : decode cX10_savesBy 82 = .ok (.isub, 1) := by decide +kernel
theorem dX10_savesBy_83 : decode cX10_savesBy 83 = .ok (.istore 8, 2) := by decide +kernel
theorem dX10_savesBy_85 : decode cX10_savesBy 85 = .ok (.aload_n 0, 1) := by decide +kernel
theorem dX10_savesBy_86 : decode cX10_savesBy 86 = .ok (.getfield 17, 3) := by decide +kernel
theorem dX10_savesBy_89 : decode cX10_savesBy 89 = .ok (.iload 4, 2) := by decide +kernel
theorem dX10_savesBy_91 : decode cX10_savesBy 91 = .ok (.iconst 2, 1) := by decide +kernel
theorem dX10_savesBy_92 : decode cX10_savesBy 92 = .ok (.iadd, 1) := by decide +kernel
theorem dX10_savesBy_93 : decode cX10_savesBy 93 = .ok (.iload 5, 2) := by decide +kernel
theorem dX10_savesBy_95 : decode cX10_savesBy 95 = .ok (.iastore, 1) := by decide +kernel
theorem dX10_savesBy_96 : decode cX10_savesBy 96 = .ok (.aload_n 0, 1) := by decide +kernel
theorem dX10_savesBy_97 : decode cX10_savesBy 97 = .ok (.getfield 17, 3) := by decide +kernel
theorem dX10_savesBy_100 : decode cX10_savesBy 100 = .ok (.iload 4, 2) := by decide +kernel
theorem dX10_savesBy_102 : decode cX10_savesBy 102 = .ok (.iconst 3, 1) := by decide +kernel
theorem dX10_savesBy_103 : decode cX10_savesBy 103 = .ok (.iadd, 1) := by decide +kernel
theorem dX10_savesBy_104 : decode cX10_savesBy 104 = .ok (.iload 6, 2) := by decide +kernel
theorem dX10_savesBy_106 : decode cX10_savesBy 106 = .ok (.iastore, 1) := by decide +kernel
theorem dX10_savesBy_107 : decode cX10_savesBy 107 = .ok (.iload 8, 2) := by decide +kernel
theorem dX10_savesBy_109 : decode cX10_savesBy 109 = .ok (.ireturn, 1) := by decide +kernel
theorem dX10_sets_0 : decode cX10_sets 0 = .ok (.bipush 7, 2) := by decide +kernel
theorem dX10_sets_2 : decode cX10_sets 2 = .ok (.iload_n 1, 1) := by decide +kernel
theorem dX10_sets_3 : decode cX10_sets 3 = .ok (.imul, 1) := by decide +kernel
theorem dX10_sets_4 : decode cX10_sets 4 = .ok (.istore 8, 2) := by decide +kernel
theorem dX10_sets_6 : decode cX10_sets 6 = .ok (.aload_n 0, 1) := by decide +kernel
theorem dX10_sets_7 : decode cX10_sets 7 = .ok (.iload 8, 2) := by decide +kernel
theorem dX10_sets_9 : decode cX10_sets 9 = .ok (.iconst 0, 1) := by decide +kernel
theorem dX10_sets_10 : decode cX10_sets 10 = .ok (.iadd, 1) := by decide +kernel
theorem dX10_sets_11 : decode cX10_sets 11 = .ok (.iload_n 2, 1) := by decide +kernel
theorem dX10_sets_12 : decode cX10_sets 12 = .ok (.iastore, 1) := by decide +kernel
theorem dX10_sets_13 : decode cX10_sets 13 = .ok (.aload_n 0, 1) := by decide +kernel
theorem dX10_sets_14 : decode cX10_sets 14 = .ok (.iload 8, 2) := by decide +kernel
theorem dX10_sets_16 : decode cX10_sets 16 = .ok (.iconst 1, 1) := by decide +kernel
theorem dX10_sets_17 : decode cX10_sets 17 = .ok (.iadd, 1) := by decide +kernel
theorem dX10_sets_18 : decode cX10_sets 18 = .ok (.iload_n 3, 1) := by decide +kernel
theorem dX10_sets_19 : decode cX10_sets 19 = .ok (.iastore, 1) := by decide +kernel
theorem dX10_sets_20 : decode cX10_sets 20 = .ok (.aload_n 0, 1) := by decide +kernel
theorem dX10_sets_21 : decode cX10_sets 21 = .ok (.iload 8, 2) := by decide +kernel
theorem dX10_sets_23 : decode cX10_sets 23 = .ok (.iconst 2, 1) := by decide +kernel
theorem dX10_sets_24 : decode cX10_sets 24 = .ok (.iadd, 1) := by decide +kernel
theorem dX10_sets_25 : decode cX10_sets 25 = .ok (.iload 4, 2) := by decide +kernel
theorem dX10_sets_27 : decode cX10_sets 27 = .ok (.iastore, 1) := by decide +kernel
theorem dX10_sets_28 : decode cX10_sets 28 = .ok (.aload_n 0, 1) := by decide +kernel
theorem dX10_sets_29 : decode cX10_sets 29 = .ok (.iload 8, 2) := by decide +kernel
theorem dX10_sets_31 : decode cX10_sets 31 = .ok (.iconst 3, 1) := by decide +kernel
theorem dX10_sets_32 : decode cX10_sets 32 = .ok (.iadd, 1) := by decide +kernel
theorem dX10_sets_33 : decode cX10_sets 33 = .ok (.iload 5, 2) := by decide +kernel
theorem dX10_sets_35 : decode cX10_sets 35 = .ok (.iastore, 1) := by decide +kernel
theorem dX10_sets_36 : decode cX10_sets 36 = .ok (.aload_n 0, 1) := by decide +kernel
theorem dX10_sets_37 : decode cX10_sets 37 = .ok (.iload 8, 2) := by decide +kernel
theorem dX10_sets_39 : decode cX10_sets 39 = .ok (.iconst 4, 1) := by decide +kernel
theorem dX10_sets_40 : decode cX10_sets 40 = .ok (.iadd, 1) := by decide +kernel
theorem dX10_sets_41 : decode cX10_sets 41 = .ok (.iload 6, 2) := by decide +kernel
theorem dX10_sets_43 : decode cX10_sets 43 = .ok (.iastore, 1) := by decide +kernel
theorem dX10_sets_44 : decode cX10_sets 44 = .ok (.aload_n 0, 1) := by decide +kernel
theorem dX10_sets_45 : decode cX10_sets 45 = .ok (.iload 8, 2) := by decide +kernel
theorem dX10_sets_47 : decode cX10_sets 47 = .ok (.iconst 5, 1) := by decide +kernel
theorem dX10_sets_48 : decode cX10_sets 48 = .ok (.iadd, 1) := by decide +kernel
theorem dX10_sets_49 : decode cX10_sets 49 = .ok (.iload 7, 2) := by decide +kernel
theorem dX10_sets_51 : decode cX10_sets 51 = .ok (.iastore, 1) := by decide +kernel
theorem dX10_sets_52 : decode cX10_sets 52 = .ok (.aload_n 0, 1) := by decide +kernel
theorem dX10_sets_53 : decode cX10_sets 53 = .ok (.iload 8, 2) := by decide +kernel
theorem dX10_sets_55 : decode cX10_sets 55 = .ok (.bipush 6, 2) := by decide +kernel
theorem dX10_sets_57 : decode cX10_sets 57 = .ok (.iadd, 1) := by decide +kernel
theorem dX10_sets_58 : decode cX10_sets 58 = .ok (.iconst 0, 1) := by decide +kernel
theorem dX10_sets_59 : decode cX10_sets 59 = .ok (.iastore, 1) := by decide +kernel
theorem dX10_sets_60 : decode cX10_sets 60 = .ok (.return_, 1) := by decide +kernel
theorem dX10_size_0 : decode cX10_size 0 = .ok (.aload_n 0, 1) := by decide +kernel
theorem dX10_size_1 : decode cX10_size 1 = .ok (.iconst 0, 1) := by decide +kernel
theorem dX10_size_2 : decode cX10_size 2 = .ok (.putfield 61, 3) := by decide +kernel
theorem dX10_size_5 : decode cX10_size 5 = .ok (.iload_n 1, 1) := by decide +kernel
theorem dX10_size_6 : decode cX10_size 6 = .ok (.bipush 8, 2) := by decide +kernel
theorem dX10_size_8 : decode cX10_size 8 = .ok (.if_icmp .ne 8, 3) := by decide +kernel
theorem dX10_size_11 : decode cX10_size 11 = .ok (.aload_n 0, 1) := by decide +kernel
theorem dX10_size_12 : decode cX10_size 12 = .ok (.getfield 329, 3) := by decide +kernel
theorem dX10_size_15 : decode cX10_size 15 = .ok (.ireturn, 1) := by decide +kernel
theorem dX10_size_16 : decode cX10_size 16 = .ok (.iload_n 1, 1) := by decide +kernel
theorem dX10_size_17 : decode cX10_size 17 = .ok (.iconst 0, 1) := by decide +kernel
theorem dX10_size_18 : decode cX10_size 18 = .ok (.bipush 7, 2) := by decide +kernel
theorem dX10_size_20 : decode cX10_size 20 = .ok (.invokestatic 139, 3) := by decide +kernel
theorem dX10_size_23 : decode cX10_size 23 = .ok (.ifCond .ne 5, 3) := by decide +kernel
theorem dX10_size_26 : decode cX10_size 26 = .ok (.iconst (-1), 1) := by decide +kernel
theorem dX10_size_27 : decode cX10_size 27 = .ok (.ireturn, 1) := by decide +kernel
theorem dX10_size_28 : decode cX10_size 28 = .ok (.aload_n 0, 1) := by decide +kernel
theorem dX10_size_29 : decode cX10_size 29 = .ok (.getfield 336, 3) := by decide +kernel
theorem dX10_size_32 : decode cX10_size 32 = .ok (.ifnonnull 5, 3) := by decide +kernel
theorem dX10_size_35 : decode cX10_size 35 = .ok (.iconst 0, 1) := by decide +kernel
theorem dX10_size_36 : decode cX10_size 36 = .ok (.ireturn, 1) := by decide +kernel
theorem dX10_size_37 : decode cX10_size 37 = .ok (.iload_n 1, 1) := by decide +kernel
theorem dX10_size_38 : decode cX10_size 38 = .ok (.tableswitch 93 0 6 #[42, 50, 55, 63, 71, 79, 88], 42) := by decide +kernel
theorem dX10_size_80 : decode cX10_size 80 = .ok (.aload_n 0, 1) := by decide +kernel
theorem dX10_size_81 : decode cX10_size 81 = .ok (.getfield 336, 3) := by decide +kernel
theorem dX10_size_84 : decode cX10_size 84 = .ok (.getfield 174, 3) := by decide +kernel
theorem dX10_size_87 : decode cX10_size 87 = .ok (.ireturn, 1) := by decide +kernel
theorem dX10_size_88 : decode cX10_size 88 = .ok (.aload_n 0, 1) := by decide +kernel
theorem dX10_size_89 : decode cX10_size 89 = .ok (.getfield 339, 3) := by decide +kernel
theorem dX10_size_92 : decode cX10_size 92 = .ok (.ireturn, 1) := by decide +kernel
theorem dX10_size_93 : decode cX10_size 93 = .ok (.aload_n 0, 1) := by decide +kernel
theorem dX10_size_94 : decode cX10_size 94 = .ok (.getfield 336, 3) := by decide +kernel
theorem dX10_size_97 : decode cX10_size 97 = .ok (.getfield 249, 3) := by decide +kernel
theorem dX10_size_100 : decode cX10_size 100 = .ok (.ireturn, 1) := by decide +kernel
theorem dX10_size_101 : decode cX10_size 101 = .ok (.aload_n 0, 1) := by decide +kernel
theorem dX10_size_102 : decode cX10_size 102 = .ok (.getfield 336, 3) := by decide +kernel
theorem dX10_size_105 : decode cX10_size 105 = .ok (.getfield 271, 3) := by decide +kernel
theorem dX10_size_108 : decode cX10_size 108 = .ok (.ireturn, 1) := by decide +kernel
theorem dX10_size_109 : decode cX10_size 109 = .ok (.aload_n 0, 1) := by decide +kernel
theorem dX10_size_110 : decode cX10_size 110 = .ok (.getfield 336, 3) := by decide +kernel
theorem dX10_size_113 : decode cX10_size 113 = .ok (.getfield 296, 3) := by decide +kernel
theorem dX10_size_116 : decode cX10_size 116 = .ok (.ireturn, 1) := by decide +kernel
theorem dX10_size_117 : decode cX10_size 117 = .ok (.aload_n 0, 1) := by decide +kernel
theorem dX10_size_118 : decode cX10_size 118 = .ok (.getfield 31, 3) := by decide +kernel
theorem dX10_size_121 : decode cX10_size 121 = .ok (.sipush 670, 3) := by decide +kernel
theorem dX10_size_124 : decode cX10_size 124 = .ok (.iaload, 1) := by decide +kernel
theorem dX10_size_125 : decode cX10_size 125 = .ok (.ireturn, 1) := by decide +kernel
theorem dX10_size_126 : decode cX10_size 126 = .ok (.aload_n 0, 1) := by decide +kernel
theorem dX10_size_127 : decode cX10_size 127 = .ok (.getfield 468, 3) := by decide +kernel
theorem dX10_size_130 : decode cX10_size 130 = .ok (.ireturn, 1) := by decide +kernel
theorem dX10_size_131 : decode cX10_size 131 = .ok (.aload_n 0, 1) := by decide +kernel
theorem dX10_size_132 : decode cX10_size 132 = .ok (.getfield 340, 3) := by decide +kernel
theorem dX10_size_135 : decode cX10_size 135 = .ok (.ireturn, 1) := by decide +kernel
theorem dX10_spreads_0 : decode cX10_spreads 0 = .ok (.iconst 1, 1) := by decide +kernel
theorem dX10_spreads_1 : decode cX10_spreads 1 = .ok (.istore_n 2, 1) := by decide +kernel
theorem dX10_spreads_2 : decode cX10_spreads 2 = .ok (.iload_n 2, 1) := by decide +kernel
theorem dX10_spreads_3 : decode cX10_spreads 3 = .ok (.ifCond .eq 206, 3) := by decide +kernel
theorem dX10_spreads_6 : decode cX10_spreads 6 = .ok (.iconst 0, 1) := by decide +kernel
theorem dX10_spreads_7 : decode cX10_spreads 7 = .ok (.istore_n 2, 1) := by decide +kernel
theorem dX10_spreads_8 : decode cX10_spreads 8 = .ok (.iconst 0, 1) := by decide +kernel
theorem dX10_spreads_9 : decode cX10_spreads 9 = .ok (.istore_n 3, 1) := by decide +kernel
theorem dX10_spreads_10 : decode cX10_spreads 10 = .ok (.iload_n 3, 1) := by decide +kernel
theorem dX10_spreads_11 : decode cX10_spreads 11 = .ok (.aload_n 0, 1) := by decide +kernel
theorem dX10_spreads_12 : decode cX10_spreads 12 = .ok (.getfield 336, 3) := by decide +kernel
theorem dX10_spreads_15 : decode cX10_spreads 15 = .ok (.getfield 174, 3) := by decide +kernel
theorem dX10_spreads_18 : decode cX10_spreads 18 = .ok (.if_icmp .ge 99, 3) := by decide +kernel
theorem dX10_spreads_21 : decode cX10_spreads 21 = .ok (.aload_n 0, 1) := by decide +kernel
theorem dX10_spreads_22 : decode cX10_spreads 22 = .ok (.iload_n 3, 1) := by decide +kernel
theorem dX10_spreads_23 : decode cX10_spreads 23 = .ok (.invokevirtual 387, 3) := by decide +kernel
theorem dX10_spreads_26 : decode cX10_spreads 26 = .ok (.ifCond .ne 6, 3) := by decide +kernel
theorem dX10_spreads_29 : decode cX10_spreads 29 = .ok (.goto 82, 3) := by decide +kernel
theorem dX10_spreads_32 : decode cX10_spreads 32 = .ok (.iconst 0, 1) := by decide +kernel
theorem dX10_spreads_33 : decode cX10_spreads 33 = .ok (.istore 4, 2) := by decide +kernel
theorem dX10_spreads_35 : decode cX10_spreads 35 = .ok (.iload 4, 2) := by decide +kernel
theorem dX10_spreads_37 : decode cX10_spreads 37 = .ok (.bipush 12, 2) := by decide +kernel
theorem dX10_spreads_39 : decode cX10_spreads 39 = .ok (.if_icmp .ge 72, 3) := by decide +kernel
theorem dX10_spreads_42 : decode cX10_spreads 42 = .ok (.iload_n 2, 1) := by decide +kernel
theorem dX10_spreads_43 : decode cX10_spreads 43 = .ok (.aload_n 1, 1) := by decide +kernel
theorem dX10_spreads_44 : decode cX10_spreads 44 = .ok (.bipush 12, 2) := by decide +kernel
theorem dX10_spreads_46 : decode cX10_spreads 46 = .ok (.iload_n 3, 1) := by decide +kernel
theorem dX10_spreads_47 : decode cX10_spreads 47 = .ok (.imul, 1) := by decide +kernel
theorem dX10_spreads_48 : decode cX10_spreads 48 = .ok (.iload 4, 2) := by decide +kernel
theorem dX10_spreads_50 : decode cX10_spreads 50 = .ok (.iadd, 1) := by decide +kernel
theorem dX10_spreads_51 : decode cX10_spreads 51 = .ok (.aload_n 1, 1) := by decide +kernel
theorem dX10_spreads_52 : decode cX10_spreads 52 = .ok (.bipush 12, 2) := by decide +kernel
theorem dX10_spreads_54 : decode cX10_spreads 54 = .ok (.iload_n 3, 1) := by decide +kernel
theorem dX10_spreads_55 : decode cX10_spreads 55 = .ok (.imul, 1) := by decide +kernel
theorem dX10_spreads_56 : decode cX10_spreads 56 = .ok (.iload 4, 2) := by decide +kernel
theorem dX10_spreads_58 : decode cX10_spreads 58 = .ok (.iconst 1, 1) := by decide +kernel
theorem dX10_spreads_59 : decode cX10_spreads 59 = .ok (.iadd, 1) := by decide +kernel
theorem dX10_spreads_60 : decode cX10_spreads 60 = .ok (.bipush 12, 2) := by decide +kernel
theorem dX10_spreads_62 : decode cX10_spreads 62 = .ok (.irem, 1) := by decide +kernel
theorem dX10_spreads_63 : decode cX10_spreads 63 = .ok (.iadd, 1) := by decide +kernel
theorem dX10_spreads_64 : decode cX10_spreads 64 = .ok (.iaload, 1) := by decide +kernel
theorem dX10_spreads_65 : decode cX10_spreads 65 = .ok (.iconst 1, 1) := by decide +kernel
theorem dX10_spreads_66 : decode cX10_spreads 66 = .ok (.iadd, 1) := by decide +kernel
theorem dX10_spreads_67 : decode cX10_spreads 67 = .ok (.invokestatic 523, 3) := by decide +kernel
theorem dX10_spreads_70 : decode cX10_spreads 70 = .ok (.ior, 1) := by decide +kernel
theorem dX10_spreads_71 : decode cX10_spreads 71 = .ok (.istore_n 2, 1) := by decide +kernel
theorem dX10_spreads_72 : decode cX10_spreads 72 = .ok (.iload_n 2, 1) := by decide +kernel
theorem dX10_spreads_73 : decode cX10_spreads 73 = .ok (.aload_n 1, 1) := by decide +kernel
theorem dX10_spreads_74 : decode cX10_spreads 74 = .ok (.bipush 12, 2) := by decide +kernel
theorem dX10_spreads_76 : decode cX10_spreads 76 = .ok (.iload_n 3, 1) := by decide +kernel
theorem dX10_spreads_77 : decode cX10_spreads 77 = .ok (.imul, 1) := by decide +kernel
theorem dX10_spreads_78 : decode cX10_spreads 78 = .ok (.iload 4, 2) := by decide +kernel
theorem dX10_spreads_80 : decode cX10_spreads 80 = .ok (.iadd, 1) := by decide +kernel
theorem dX10_spreads_81 : decode cX10_spreads 81 = .ok (.aload_n 1, 1) := by decide +kernel
theorem dX10_spreads_82 : decode cX10_spreads 82 = .ok (.bipush 12, 2) := by decide +kernel
theorem dX10_spreads_84 : decode cX10_spreads 84 = .ok (.iload_n 3, 1) := by decide +kernel
theorem dX10_spreads_85 : decode cX10_spreads 85 = .ok (.imul, 1) := by decide +kernel
theorem dX10_spreads_86 : decode cX10_spreads 86 = .ok (.iload 4, 2) := by decide +kernel
theorem dX10_spreads_88 : decode cX10_spreads 88 = .ok (.bipush 12, 2) := by decide +kernel
theorem dX10_spreads_90 : decode cX10_spreads 90 = .ok (.iadd, 1) := by decide +kernel
theorem dX10_spreads_91 : decode cX10_spreads 91 = .ok (.iconst 1, 1) := by decide +kernel
theorem dX10_spreads_92 : decode cX10_spreads 92 = .ok (.isub, 1) := by decide +kernel
theorem dX10_spreads_93 : decode cX10_spreads 93 = .ok (.bipush 12, 2) := by decide +kernel
theorem dX10_spreads_95 : decode cX10_spreads 95 = .ok (.irem, 1) := by decide +kernel
theorem dX10_spreads_96 : decode cX10_spreads 96 = .ok (.iadd, 1) := by decide +kernel
theorem dX10_spreads_97 : decode cX10_spreads 97 = .ok (.iaload, 1) := by decide +kernel
theorem dX10_spreads_98 : decode cX10_spreads 98 = .ok (.iconst 1, 1) := by decide +kernel
theorem dX10_spreads_99 : decode cX10_spreads 99 = .ok (.iadd, 1) := by decide +kernel
theorem dX10_spreads_100 : decode cX10_spreads 100 = .ok (.invokestatic 523, 3) := by decide +kernel
theorem dX10_spreads_103 : decode cX10_spreads 103 = .ok (.ior, 1) := by decide +kernel
theorem dX10_spreads_104 : decode cX10_spreads 104 = .ok (.istore_n 2, 1) := by decide +kernel
theorem dX10_spreads_105 : decode cX10_spreads 105 = .ok (.iinc 4 1, 3) := by decide +kernel
theorem dX10_spreads_108 : decode cX10_spreads 108 = .ok (.goto (-73), 3) := by decide +kernel
theorem dX10_spreads_111 : decode cX10_spreads 111 = .ok (.iinc 3 1, 3) := by decide +kernel
theorem dX10_spreads_114 : decode cX10_spreads 114 = .ok (.goto (-104), 3) := by decide +kernel
theorem dX10_spreads_117 : decode cX10_spreads 117 = .ok (.iconst 0, 1) := by decide +kernel
theorem dX10_spreads_118 : decode cX10_spreads 118 = .ok (.istore_n 3, 1) := by decide +kernel
theorem dX10_spreads_119 : decode cX10_spreads 119 = .ok (.iload_n 3, 1) := by decide +kernel
theorem dX10_spreads_120 : decode cX10_spreads 120 = .ok (.aload_n 0, 1) := by decide +kernel
theorem dX10_spreads_121 : decode cX10_spreads 121 = .ok (.getfield 339, 3) := by decide +kernel
theorem dX10_spreads_124 : decode cX10_spreads 124 = .ok (.if_icmp .ge 82, 3) := by decide +kernel
theorem dX10_spreads_127 : decode cX10_spreads 127 = .ok (.aload_n 0, 1) := by decide +kernel
theorem dX10_spreads_128 : decode cX10_spreads 128 = .ok (.iload_n 3, 1) := by decide +kernel
theorem dX10_spreads_129 : decode cX10_spreads 129 = .ok (.invokevirtual 406, 3) := by decide +kernel
theorem dX10_spreads_132 : decode cX10_spreads 132 = .ok (.ifCond .ne 6, 3) := by decide +kernel
theorem dX10_spreads_135 : decode cX10_spreads 135 = .ok (.goto 65, 3) := by decide +kernel
theorem dX10_spreads_138 : decode cX10_spreads 138 = .ok (.bipush 12, 2) := by decide +kernel
theorem dX10_spreads_140 : decode cX10_spreads 140 = .ok (.aload_n 0, 1) := by decide +kernel
theorem dX10_spreads_141 : decode cX10_spreads 141 = .ok (.iload_n 3, 1) := by decide +kernel
theorem dX10_spreads_142 : decode cX10_spreads 142 = .ok (.iconst 0, 1) := by decide +kernel
theorem dX10_spreads_143 : decode cX10_spreads 143 = .ok (.invokevirtual 349, 3) := by decide +kernel
theorem dX10_spreads_146 : decode cX10_spreads 146 = .ok (.imul, 1) := by decide +kernel
theorem dX10_spreads_147 : decode cX10_spreads 147 = .ok (.aload_n 0, 1) := by decide +kernel
theorem dX10_spreads_148 : decode cX10_spreads 148 = .ok (.iload_n 3, 1) := by decide +kernel
theorem dX10_spreads_149 : decode cX10_spreads 149 = .ok (.iconst 1, 1) := by decide +kernel
theorem dX10_spreads_150 : decode cX10_spreads 150 = .ok (.invokevirtual 349, 3) := by decide +kernel
theorem dX10_spreads_153 : decode cX10_spreads 153 = .ok (.iadd, 1) := by decide +kernel
theorem dX10_spreads_154 : decode cX10_spreads 154 = .ok (.istore 4, 2) := by decide +kernel
theorem dX10_spreads_156 : decode cX10_spreads 156 = .ok (.iload_n 2, 1) := by decide +kernel
theorem dX10_spreads_157 : decode cX10_spreads 157 = .ok (.aload_n 1, 1) := by decide +kernel
theorem dX10_spreads_158 : decode cX10_spreads 158 = .ok (.iload 4, 2) := by decide +kernel
theorem dX10_spreads_160 : decode cX10_spreads 160 = .ok (.aload_n 1, 1) := by decide +kernel
theorem dX10_spreads_161 : decode cX10_spreads 161 = .ok (.iload 4, 2) := by decide +kernel
theorem dX10_spreads_163 : decode cX10_spreads 163 = .ok (.bipush 12, 2) := by decide +kernel
theorem dX10_spreads_165 : decode cX10_spreads 165 = .ok (.iadd, 1) := by decide +kernel
theorem dX10_spreads_166 : decode cX10_spreads 166 = .ok (.iaload, 1) := by decide +kernel
theorem dX10_spreads_167 : decode cX10_spreads 167 = .ok (.aload_n 0, 1) := by decide +kernel
theorem dX10_spreads_168 : decode cX10_spreads 168 = .ok (.iload_n 3, 1) := by decide +kernel
theorem dX10_spreads_169 : decode cX10_spreads 169 = .ok (.invokevirtual 412, 3) := by decide +kernel
theorem dX10_spreads_172 : decode cX10_spreads 172 = .ok (.iadd, 1) := by decide +kernel
theorem dX10_spreads_173 : decode cX10_spreads 173 = .ok (.invokestatic 523, 3) := by decide +kernel
theorem dX10_spreads_176 : decode cX10_spreads 176 = .ok (.ior, 1) := by decide +kernel
theorem dX10_spreads_177 : decode cX10_spreads 177 = .ok (.istore_n 2, 1) := by decide +kernel
theorem dX10_spreads_178 : decode cX10_spreads 178 = .ok (.iload_n 2, 1) := by decide +kernel
theorem dX10_spreads_179 : decode cX10_spreads 179 = .ok (.aload_n 1, 1) := by decide +kernel
theorem dX10_spreads_180 : decode cX10_spreads 180 = .ok (.iload 4, 2) := by decide +kernel
theorem dX10_spreads_182 : decode cX10_spreads 182 = .ok (.bipush 12, 2) := by decide +kernel
theorem dX10_spreads_184 : decode cX10_spreads 184 = .ok (.iadd, 1) := by decide +kernel
theorem dX10_spreads_185 : decode cX10_spreads 185 = .ok (.aload_n 1, 1) := by decide +kernel
theorem dX10_spreads_186 : decode cX10_spreads 186 = .ok (.iload 4, 2) := by decide +kernel
theorem dX10_spreads_188 : decode cX10_spreads 188 = .ok (.iaload, 1) := by decide +kernel
theorem dX10_spreads_189 : decode cX10_spreads 189 = .ok (.aload_n 0, 1) := by decide +kernel
theorem dX10_spreads_190 : decode cX10_spreads 190 = .ok (.iload_n 3, 1) := by decide +kernel
theorem dX10_spreads_191 : decode cX10_spreads 191 = .ok (.invokevirtual 412, 3) := by decide +kernel
theorem dX10_spreads_194 : decode cX10_spreads 194 = .ok (.iadd, 1) := by decide +kernel
theorem dX10_spreads_195 : decode cX10_spreads 195 = .ok (.invokestatic 523, 3) := by decide +kernel
theorem dX10_spreads_198 : decode cX10_spreads 198 = .ok (.ior, 1) := by decide +kernel
theorem dX10_spreads_199 : decode cX10_spreads 199 = .ok (.istore_n 2, 1) := by decide +kernel
theorem dX10_spreads_200 : decode cX10_spreads 200 = .ok (.iinc 3 1, 3) := by decide +kernel
theorem dX10_spreads_203 : decode cX10_spreads 203 = .ok (.goto (-84), 3) := by decide +kernel
theorem dX10_spreads_206 : decode cX10_spreads 206 = .ok (.goto (-204), 3) := by decide +kernel
theorem dX10_spreads_209 : decode cX10_spreads 209 = .ok (.return_, 1) := by decide +kernel
theorem dX10_stand_0 : decode cX10_stand 0 = .ok (.aload_n 0, 1) := by decide +kernel
theorem dX10_stand_1 : decode cX10_stand 1 = .ok (.iconst 0, 1) := by decide +kernel
theorem dX10_stand_2 : decode cX10_stand 2 = .ok (.putfield 61, 3) := by decide +kernel
theorem dX10_stand_5 : decode cX10_stand 5 = .ok (.aload_n 0, 1) := by decide +kernel
theorem dX10_stand_6 : decode cX10_stand 6 = .ok (.getfield 336, 3) := by decide +kernel
theorem dX10_stand_9 : decode cX10_stand 9 = .ok (.ifnonnull 9, 3) := by decide +kernel
theorem dX10_stand_12 : decode cX10_stand 12 = .ok (.aload_n 0, 1) := by decide +kernel
theorem dX10_stand_13 : decode cX10_stand 13 = .ok (.iconst 1, 1) := by decide +kernel
theorem dX10_stand_14 : decode cX10_stand 14 = .ok (.invokevirtual 67, 3) := by decide +kernel
theorem dX10_stand_17 : decode cX10_stand 17 = .ok (.ireturn, 1) := by decide +kernel
theorem dX10_stand_18 : decode cX10_stand 18 = .ok (.iconst 0, 1) := by decide +kernel
theorem dX10_stand_19 : decode cX10_stand 19 = .ok (.istore_n 1, 1) := by decide +kernel
theorem dX10_stand_20 : decode cX10_stand 20 = .ok (.iconst 1, 1) := by decide +kernel
theorem dX10_stand_21 : decode cX10_stand 21 = .ok (.istore_n 2, 1) := by decide +kernel
theorem dX10_stand_22 : decode cX10_stand 22 = .ok (.iload_n 2, 1) := by decide +kernel
theorem dX10_stand_23 : decode cX10_stand 23 = .ok (.aload_n 0, 1) := by decide +kernel
theorem dX10_stand_24 : decode cX10_stand 24 = .ok (.getfield 336, 3) := by decide +kernel
theorem dX10_stand_27 : decode cX10_stand 27 = .ok (.getfield 174, 3) := by decide +kernel
theorem dX10_stand_30 : decode cX10_stand 30 = .ok (.if_icmp .ge 24, 3) := by decide +kernel
theorem dX10_stand_33 : decode cX10_stand 33 = .ok (.aload_n 0, 1) := by decide +kernel
theorem dX10_stand_34 : decode cX10_stand 34 = .ok (.iload_n 2, 1) := by decide +kernel
theorem dX10_stand_35 : decode cX10_stand 35 = .ok (.invokevirtual 520, 3) := by decide +kernel
theorem dX10_stand_38 : decode cX10_stand 38 = .ok (.aload_n 0, 1) := by decide +kernel
theorem dX10_stand_39 : decode cX10_stand 39 = .ok (.iload_n 1, 1) := by decide +kernel
theorem dX10_stand_40 : decode cX10_stand 40 = .ok (.invokevirtual 520, 3) := by decide +kernel
theorem dX10_stand_43 : decode cX10_stand 43 = .ok (.if_icmp .lt 5, 3) := by decide +kernel
theorem dX10_stand_46 : decode cX10_stand 46 = .ok (.iload_n 2, 1) := by decide +kernel
theorem dX10_stand_47 : decode cX10_stand 47 = .ok (.istore_n 1, 1) := by decide +kernel
theorem dX10_stand_48 : decode cX10_stand 48 = .ok (.iinc 2 1, 3) := by decide +kernel
theorem dX10_stand_51 : decode cX10_stand 51 = .ok (.goto (-29), 3) := by decide +kernel
theorem dX10_stand_54 : decode cX10_stand 54 = .ok (.aload_n 0, 1) := by decide +kernel
theorem dX10_stand_55 : decode cX10_stand 55 = .ok (.iload_n 1, 1) := by decide +kernel
theorem dX10_stand_56 : decode cX10_stand 56 = .ok (.invokevirtual 71, 3) := by decide +kernel
theorem dX10_stand_59 : decode cX10_stand 59 = .ok (.ireturn, 1) := by decide +kernel
theorem dX10_takes_0 : decode cX10_takes 0 = .ok (.aload_n 0, 1) := by decide +kernel
theorem dX10_takes_1 : decode cX10_takes 1 = .ok (.iload_n 2, 1) := by decide +kernel
theorem dX10_takes_2 : decode cX10_takes 2 = .ok (.ifCond .eq 15, 3) := by decide +kernel
theorem dX10_takes_5 : decode cX10_takes 5 = .ok (.aload_n 0, 1) := by decide +kernel
theorem dX10_takes_6 : decode cX10_takes 6 = .ok (.getfield 336, 3) := by decide +kernel
theorem dX10_takes_9 : decode cX10_takes 9 = .ok (.getfield 289, 3) := by decide +kernel
theorem dX10_takes_12 : decode cX10_takes 12 = .ok (.iload_n 1, 1) := by decide +kernel
theorem dX10_takes_13 : decode cX10_takes 13 = .ok (.iaload, 1) := by decide +kernel
theorem dX10_takes_14 : decode cX10_takes 14 = .ok (.goto 4, 3) := by decide +kernel
theorem dX10_takes_17 : decode cX10_takes 17 = .ok (.iconst 1, 1) := by decide +kernel
theorem dX10_takes_18 : decode cX10_takes 18 = .ok (.putfield 351, 3) := by decide +kernel
theorem dX10_takes_21 : decode cX10_takes 21 = .ok (.aload_n 0, 1) := by decide +kernel
theorem dX10_takes_22 : decode cX10_takes 22 = .ok (.aload_n 0, 1) := by decide +kernel
theorem dX10_takes_23 : decode cX10_takes 23 = .ok (.getfield 336, 3) := by decide +kernel
theorem dX10_takes_26 : decode cX10_takes 26 = .ok (.getfield 281, 3) := by decide +kernel
theorem dX10_takes_29 : decode cX10_takes 29 = .ok (.iload_n 1, 1) := by decide +kernel
theorem dX10_takes_30 : decode cX10_takes 30 = .ok (.iaload, 1) := by decide +kernel
theorem dX10_takes_31 : decode cX10_takes 31 = .ok (.aload_n 0, 1) := by decide +kernel
theorem dX10_takes_32 : decode cX10_takes 32 = .ok (.getfield 351, 3) := by decide +kernel
theorem dX10_takes_35 : decode cX10_takes 35 = .ok (.invokestatic 354, 3) := by decide +kernel
theorem dX10_takes_38 : decode cX10_takes 38 = .ok (.putfield 357, 3) := by decide +kernel
theorem dX10_takes_41 : decode cX10_takes 41 = .ok (.aload_n 0, 1) := by decide +kernel
theorem dX10_takes_42 : decode cX10_takes 42 = .ok (.aload_n 0, 1) := by decide +kernel
theorem dX10_takes_43 : decode cX10_takes 43 = .ok (.getfield 336, 3) := by decide +kernel
theorem dX10_takes_46 : decode cX10_takes 46 = .ok (.getfield 287, 3) := by decide +kernel
theorem dX10_takes_49 : decode cX10_takes 49 = .ok (.iload_n 1, 1) := by decide +kernel
theorem dX10_takes_50 : decode cX10_takes 50 = .ok (.iaload, 1) := by decide +kernel
theorem dX10_takes_51 : decode cX10_takes 51 = .ok (.aload_n 0, 1) := by decide +kernel
theorem dX10_takes_52 : decode cX10_takes 52 = .ok (.getfield 351, 3) := by decide +kernel
theorem dX10_takes_55 : decode cX10_takes 55 = .ok (.invokestatic 354, 3) := by decide +kernel
theorem dX10_takes_58 : decode cX10_takes 58 = .ok (.putfield 359, 3) := by decide +kernel
theorem dX10_takes_61 : decode cX10_takes 61 = .ok (.aload_n 0, 1) := by decide +kernel
theorem dX10_takes_62 : decode cX10_takes 62 = .ok (.aload_n 0, 1) := by decide +kernel
theorem dX10_takes_63 : decode cX10_takes 63 = .ok (.getfield 336, 3) := by decide +kernel
theorem dX10_takes_66 : decode cX10_takes 66 = .ok (.getfield 283, 3) := by decide +kernel
theorem dX10_takes_69 : decode cX10_takes 69 = .ok (.iload_n 1, 1) := by decide +kernel
theorem dX10_takes_70 : decode cX10_takes 70 = .ok (.iaload, 1) := by decide +kernel
theorem dX10_takes_71 : decode cX10_takes 71 = .ok (.putfield 362, 3) := by decide +kernel
theorem dX10_takes_74 : decode cX10_takes 74 = .ok (.aload_n 0, 1) := by decide +kernel
theorem dX10_takes_75 : decode cX10_takes 75 = .ok (.aload_n 0, 1) := by decide +kernel
theorem dX10_takes_76 : decode cX10_takes 76 = .ok (.getfield 336, 3) := by decide +kernel
theorem dX10_takes_79 : decode cX10_takes 79 = .ok (.getfield 285, 3) := by decide +kernel
theorem dX10_takes_82 : decode cX10_takes 82 = .ok (.iload_n 1, 1) := by decide +kernel
theorem dX10_takes_83 : decode cX10_takes 83 = .ok (.iaload, 1) := by decide +kernel
theorem dX10_takes_84 : decode cX10_takes 84 = .ok (.putfield 364, 3) := by decide +kernel
theorem dX10_takes_87 : decode cX10_takes 87 = .ok (.aload_n 0, 1) := by decide +kernel
theorem dX10_takes_88 : decode cX10_takes 88 = .ok (.iconst 1, 1) := by decide +kernel
theorem dX10_takes_89 : decode cX10_takes 89 = .ok (.aload_n 0, 1) := by decide +kernel
theorem dX10_takes_90 : decode cX10_takes 90 = .ok (.getfield 336, 3) := by decide +kernel
theorem dX10_takes_93 : decode cX10_takes 93 = .ok (.getfield 293, 3) := by decide +kernel
theorem dX10_takes_96 : decode cX10_takes 96 = .ok (.iload_n 1, 1) := by decide +kernel
theorem dX10_takes_97 : decode cX10_takes 97 = .ok (.baload, 1) := by decide +kernel
theorem dX10_takes_98 : decode cX10_takes 98 = .ok (.ifCond .eq 7, 3) := by decide +kernel
theorem dX10_takes_101 : decode cX10_takes 101 = .ok (.iconst 0, 1) := by decide +kernel
theorem dX10_takes_102 : decode cX10_takes 102 = .ok (.goto 4, 3) := by decide +kernel
theorem dX10_takes_105 : decode cX10_takes 105 = .ok (.iconst 2, 1) := by decide +kernel
theorem dX10_takes_106 : decode cX10_takes 106 = .ok (.ior, 1) := by decide +kernel
theorem dX10_takes_107 : decode cX10_takes 107 = .ok (.aload_n 0, 1) := by decide +kernel
theorem dX10_takes_108 : decode cX10_takes 108 = .ok (.getfield 336, 3) := by decide +kernel
theorem dX10_takes_111 : decode cX10_takes 111 = .ok (.getfield 291, 3) := by decide +kernel
theorem dX10_takes_114 : decode cX10_takes 114 = .ok (.iload_n 1, 1) := by decide +kernel
theorem dX10_takes_115 : decode cX10_takes 115 = .ok (.baload, 1) := by decide +kernel
theorem dX10_takes_116 : decode cX10_takes 116 = .ok (.ifCond .eq 7, 3) := by decide +kernel
theorem dX10_takes_119 : decode cX10_takes 119 = .ok (.iconst 4, 1) := by decide +kernel
theorem dX10_takes_120 : decode cX10_takes 120 = .ok (.goto 4, 3) := by decide +kernel
theorem dX10_takes_123 : decode cX10_takes 123 = .ok (.iconst 0, 1) := by decide +kernel
theorem dX10_takes_124 : decode cX10_takes 124 = .ok (.ior, 1) := by decide +kernel
theorem dX10_takes_125 : decode cX10_takes 125 = .ok (.putfield 366, 3) := by decide +kernel
theorem dX10_takes_128 : decode cX10_takes 128 = .ok (.return_, 1) := by decide +kernel
theorem dX10_theft_0 : decode cX10_theft 0 = .ok (.aload_n 0, 1) := by decide +kernel
theorem dX10_theft_1 : decode cX10_theft 1 = .ok (.iconst 0, 1) := by decide +kernel
theorem dX10_theft_2 : decode cX10_theft 2 = .ok (.putfield 61, 3) := by decide +kernel
theorem dX10_theft_5 : decode cX10_theft 5 = .ok (.aload_n 0, 1) := by decide +kernel
theorem dX10_theft_6 : decode cX10_theft 6 = .ok (.iload_n 1, 1) := by decide +kernel
theorem dX10_theft_7 : decode cX10_theft 7 = .ok (.invokevirtual 390, 3) := by decide +kernel
theorem dX10_theft_10 : decode cX10_theft 10 = .ok (.ifCond .eq 21, 3) := by decide +kernel
theorem dX10_theft_13 : decode cX10_theft 13 = .ok (.aload_n 0, 1) := by decide +kernel
theorem dX10_theft_14 : decode cX10_theft 14 = .ok (.iload_n 2, 1) := by decide +kernel
theorem dX10_theft_15 : decode cX10_theft 15 = .ok (.invokevirtual 393, 3) := by decide +kernel
theorem dX10_theft_18 : decode cX10_theft 18 = .ok (.ifCond .eq 13, 3) := by decide +kernel
theorem dX10_theft_21 : decode cX10_theft 21 = .ok (.iload_n 3, 1) := by decide +kernel
theorem dX10_theft_22 : decode cX10_theft 22 = .ok (.iconst 0, 1) := by decide +kernel
theorem dX10_theft_23 : decode cX10_theft 23 = .ok (.bipush 11, 2) := by decide +kernel
theorem dX10_theft_25 : decode cX10_theft 25 = .ok (.invokestatic 139, 3) := by decide +kernel
theorem dX10_theft_28 : decode cX10_theft 28 = .ok (.ifCond .ne 9, 3) := by decide +kernel
theorem dX10_theft_31 : decode cX10_theft 31 = .ok (.aload_n 0, 1) := by decide +kernel
theorem dX10_theft_32 : decode cX10_theft 32 = .ok (.iconst 1, 1) := by decide +kernel
theorem dX10_theft_33 : decode cX10_theft 33 = .ok (.invokevirtual 67, 3) := by decide +kernel
theorem dX10_theft_36 : decode cX10_theft 36 = .ok (.ireturn, 1) := by decide +kernel
theorem dX10_theft_37 : decode cX10_theft 37 = .ok (.iload 4, 2) := by decide +kernel
theorem dX10_theft_39 : decode cX10_theft 39 = .ok (.iconst 0, 1) := by decide +kernel
theorem dX10_theft_40 : decode cX10_theft 40 = .ok (.bipush 99, 2) := by decide +kernel
theorem dX10_theft_42 : decode cX10_theft 42 = .ok (.invokestatic 139, 3) := by decide +kernel
theorem dX10_theft_45 : decode cX10_theft 45 = .ok (.ifCond .ne 9, 3) := by decide +kernel
theorem dX10_theft_48 : decode cX10_theft 48 = .ok (.aload_n 0, 1) := by decide +kernel
theorem dX10_theft_49 : decode cX10_theft 49 = .ok (.iconst 2, 1) := by decide +kernel
theorem dX10_theft_50 : decode cX10_theft 50 = .ok (.invokevirtual 67, 3) := by decide +kernel
theorem dX10_theft_53 : decode cX10_theft 53 = .ok (.ireturn, 1) := by decide +kernel
theorem dX10_theft_54 : decode cX10_theft 54 = .ok (.iload 5, 2) := by decide +kernel
theorem dX10_theft_56 : decode cX10_theft 56 = .ok (.ifCond .eq 17, 3) := by decide +kernel
theorem dX10_theft_59 : decode cX10_theft 59 = .ok (.aload_n 0, 1) := by decide +kernel
theorem dX10_theft_60 : decode cX10_theft 60 = .ok (.iload_n 1, 1) := by decide +kernel
theorem dX10_theft_61 : decode cX10_theft 61 = .ok (.invokevirtual 400, 3) := by decide +kernel
theorem dX10_theft_64 : decode cX10_theft 64 = .ok (.ifCond .ne 9, 3) := by decide +kernel
theorem dX10_theft_67 : decode cX10_theft 67 = .ok (.aload_n 0, 1) := by decide +kernel
theorem dX10_theft_68 : decode cX10_theft 68 = .ok (.iconst 5, 1) := by decide +kernel
theorem dX10_theft_69 : decode cX10_theft 69 = .ok (.invokevirtual 67, 3) := by decide +kernel
theorem dX10_theft_72 : decode cX10_theft 72 = .ok (.ireturn, 1) := by decide +kernel
theorem dX10_theft_73 : decode cX10_theft 73 = .ok (.aload_n 0, 1) := by decide +kernel
theorem dX10_theft_74 : decode cX10_theft 74 = .ok (.iload_n 1, 1) := by decide +kernel
theorem dX10_theft_75 : decode cX10_theft 75 = .ok (.iload 5, 2) := by decide +kernel
theorem dX10_theft_77 : decode cX10_theft 77 = .ok (.invokevirtual 396, 3) := by decide +kernel
theorem dX10_theft_80 : decode cX10_theft 80 = .ok (.aload_n 0, 1) := by decide +kernel
theorem dX10_theft_81 : decode cX10_theft 81 = .ok (.iload_n 2, 1) := by decide +kernel
theorem dX10_theft_82 : decode cX10_theft 82 = .ok (.invokevirtual 387, 3) := by decide +kernel
theorem dX10_theft_85 : decode cX10_theft 85 = .ok (.ifCond .ne 9, 3) := by decide +kernel
theorem dX10_theft_88 : decode cX10_theft 88 = .ok (.aload_n 0, 1) := by decide +kernel
theorem dX10_theft_89 : decode cX10_theft 89 = .ok (.iconst 0, 1) := by decide +kernel
theorem dX10_theft_90 : decode cX10_theft 90 = .ok (.invokevirtual 71, 3) := by decide +kernel
theorem dX10_theft_93 : decode cX10_theft 93 = .ok (.ireturn, 1) := by decide +kernel
theorem dX10_theft_94 : decode cX10_theft 94 = .ok (.iconst 0, 1) := by decide +kernel
theorem dX10_theft_95 : decode cX10_theft 95 = .ok (.istore 6, 2) := by decide +kernel
theorem dX10_theft_97 : decode cX10_theft 97 = .ok (.iload 6, 2) := by decide +kernel
theorem dX10_theft_99 : decode cX10_theft 99 = .ok (.bipush 72, 2) := by decide +kernel
theorem dX10_theft_101 : decode cX10_theft 101 = .ok (.if_icmp .ge 63, 3) := by decide +kernel
theorem dX10_theft_104 : decode cX10_theft 104 = .ok (.aload_n 0, 1) := by decide +kernel
theorem dX10_theft_105 : decode cX10_theft 105 = .ok (.getfield 49, 3) := by decide +kernel
theorem dX10_theft_108 : decode cX10_theft 108 = .ok (.iload 6, 2) := by decide +kernel
theorem dX10_theft_110 : decode cX10_theft 110 = .ok (.iload 6, 2) := by decide +kernel
theorem dX10_theft_112 : decode cX10_theft 112 = .ok (.bipush 12, 2) := by decide +kernel
theorem dX10_theft_114 : decode cX10_theft 114 = .ok (.iload_n 2, 1) := by decide +kernel
theorem dX10_theft_115 : decode cX10_theft 115 = .ok (.imul, 1) := by decide +kernel
theorem dX10_theft_116 : decode cX10_theft 116 = .ok (.iload_n 3, 1) := by decide +kernel
theorem dX10_theft_117 : decode cX10_theft 117 = .ok (.iadd, 1) := by decide +kernel
theorem dX10_theft_118 : decode cX10_theft 118 = .ok (.if_icmp .ne 7, 3) := by decide +kernel
theorem dX10_theft_121 : decode cX10_theft 121 = .ok (.iconst 0, 1) := by decide +kernel
theorem dX10_theft_122 : decode cX10_theft 122 = .ok (.goto 6, 3) := by decide +kernel
theorem dX10_theft_125 : decode cX10_theft 125 = .ok (.ldc_w 527, 3) := by decide +kernel
theorem dX10_theft_128 : decode cX10_theft 128 = .ok (.iastore, 1) := by decide +kernel
theorem dX10_theft_129 : decode cX10_theft 129 = .ok (.aload_n 0, 1) := by decide +kernel
theorem dX10_theft_130 : decode cX10_theft 130 = .ok (.getfield 52, 3) := by decide +kernel
theorem dX10_theft_133 : decode cX10_theft 133 = .ok (.iload 6, 2) := by decide +kernel
theorem dX10_theft_135 : decode cX10_theft 135 = .ok (.iload 6, 2) := by decide +kernel
theorem dX10_theft_137 : decode cX10_theft 137 = .ok (.bipush 12, 2) := by decide +kernel
theorem dX10_theft_139 : decode cX10_theft 139 = .ok (.if_icmp .ge 15, 3) := by decide +kernel
theorem dX10_theft_142 : decode cX10_theft 142 = .ok (.aload_n 0, 1) := by decide +kernel
theorem dX10_theft_143 : decode cX10_theft 143 = .ok (.iconst 0, 1) := by decide +kernel
theorem dX10_theft_144 : decode cX10_theft 144 = .ok (.invokevirtual 387, 3) := by decide +kernel
theorem dX10_theft_147 : decode cX10_theft 147 = .ok (.ifCond .eq 7, 3) := by decide +kernel
theorem dX10_theft_150 : decode cX10_theft 150 = .ok (.iconst 0, 1) := by decide +kernel
theorem dX10_theft_151 : decode cX10_theft 151 = .ok (.goto 6, 3) := by decide +kernel
theorem dX10_theft_154 : decode cX10_theft 154 = .ok (.ldc_w 527, 3) := by decide +kernel
theorem dX10_theft_157 : decode cX10_theft 157 = .ok (.iastore, 1) := by decide +kernel
theorem dX10_theft_158 : decode cX10_theft 158 = .ok (.iinc 6 1, 3) := by decide +kernel
theorem dX10_theft_161 : decode cX10_theft 161 = .ok (.goto (-64), 3) := by decide +kernel
theorem dX10_theft_164 : decode cX10_theft 164 = .ok (.aload_n 0, 1) := by decide +kernel
theorem dX10_theft_165 : decode cX10_theft 165 = .ok (.aload_n 0, 1) := by decide +kernel
theorem dX10_theft_166 : decode cX10_theft 166 = .ok (.getfield 49, 3) := by decide +kernel
theorem dX10_theft_169 : decode cX10_theft 169 = .ok (.invokevirtual 528, 3) := by decide +kernel
theorem dX10_theft_172 : decode cX10_theft 172 = .ok (.aload_n 0, 1) := by decide +kernel
theorem dX10_theft_173 : decode cX10_theft 173 = .ok (.aload_n 0, 1) := by decide +kernel
theorem dX10_theft_174 : decode cX10_theft 174 = .ok (.getfield 52, 3) := by decide +kernel
theorem dX10_theft_177 : decode cX10_theft 177 = .ok (.invokevirtual 528, 3) := by decide +kernel
theorem dX10_theft_180 : decode cX10_theft 180 = .ok (.iconst 0, 1) := by decide +kernel
theorem dX10_theft_181 : decode cX10_theft 181 = .ok (.istore 6, 2) := by decide +kernel
theorem dX10_theft_183 : decode cX10_theft 183 = .ok (.iconst 0, 1) := by decide +kernel
theorem dX10_theft_184 : decode cX10_theft 184 = .ok (.istore 7, 2) := by decide +kernel
theorem dX10_theft_186 : decode cX10_theft 186 = .ok (.iload 7, 2) := by decide +kernel
theorem dX10_theft_188 : decode cX10_theft 188 = .ok (.aload_n 0, 1) := by decide +kernel
theorem dX10_theft_189 : decode cX10_theft 189 = .ok (.getfield 339, 3) := by decide +kernel
theorem dX10_theft_192 : decode cX10_theft 192 = .ok (.if_icmp .ge 122, 3) := by decide +kernel
theorem dX10_theft_195 : decode cX10_theft 195 = .ok (.aload_n 0, 1) := by decide +kernel
theorem dX10_theft_196 : decode cX10_theft 196 = .ok (.iload 7, 2) := by decide +kernel
theorem dX10_theft_198 : decode cX10_theft 198 = .ok (.invokevirtual 406, 3) := by decide +kernel
theorem dX10_theft_201 : decode cX10_theft 201 = .ok (.ifCond .ne 6, 3) := by decide +kernel
theorem dX10_theft_204 : decode cX10_theft 204 = .ok (.goto 104, 3) := by decide +kernel
theorem dX10_theft_207 : decode cX10_theft 207 = .ok (.bipush 12, 2) := by decide +kernel
theorem dX10_theft_209 : decode cX10_theft 209 = .ok (.aload_n 0, 1) := by decide +kernel
theorem dX10_theft_210 : decode cX10_theft 210 = .ok (.iload 7, 2) := by decide +kernel
theorem dX10_theft_212 : decode cX10_theft 212 = .ok (.iconst 0, 1) := by decide +kernel
theorem dX10_theft_213 : decode cX10_theft 213 = .ok (.invokevirtual 349, 3) := by decide +kernel
theorem dX10_theft_216 : decode cX10_theft 216 = .ok (.imul, 1) := by decide +kernel
theorem dX10_theft_217 : decode cX10_theft 217 = .ok (.aload_n 0, 1) := by decide +kernel
theorem dX10_theft_218 : decode cX10_theft 218 = .ok (.iload 7, 2) := by decide +kernel
theorem dX10_theft_220 : decode cX10_theft 220 = .ok (.iconst 1, 1) := by decide +kernel
theorem dX10_theft_221 : decode cX10_theft 221 = .ok (.invokevirtual 349, 3) := by decide +kernel
theorem dX10_theft_224 : decode cX10_theft 224 = .ok (.iadd, 1) := by decide +kernel
theorem dX10_theft_225 : decode cX10_theft 225 = .ok (.istore 8, 2) := by decide +kernel
theorem dX10_theft_227 : decode cX10_theft 227 = .ok (.aload_n 0, 1) := by decide +kernel
theorem dX10_theft_228 : decode cX10_theft 228 = .ok (.getfield 49, 3) := by decide +kernel
theorem dX10_theft_231 : decode cX10_theft 231 = .ok (.iload 8, 2) := by decide +kernel
theorem dX10_theft_233 : decode cX10_theft 233 = .ok (.iaload, 1) := by decide +kernel
theorem dX10_theft_234 : decode cX10_theft 234 = .ok (.aload_n 0, 1) := by decide +kernel
theorem dX10_theft_235 : decode cX10_theft 235 = .ok (.iload 7, 2) := by decide +kernel
theorem dX10_theft_237 : decode cX10_theft 237 = .ok (.invokevirtual 412, 3) := by decide +kernel
theorem dX10_theft_240 : decode cX10_theft 240 = .ok (.iadd, 1) := by decide +kernel
theorem dX10_theft_241 : decode cX10_theft 241 = .ok (.aload_n 0, 1) := by decide +kernel
theorem dX10_theft_242 : decode cX10_theft 242 = .ok (.getfield 52, 3) := by decide +kernel
theorem dX10_theft_245 : decode cX10_theft 245 = .ok (.iload 8, 2) := by decide +kernel
theorem dX10_theft_247 : decode cX10_theft 247 = .ok (.bipush 12, 2) := by decide +kernel
theorem dX10_theft_249 : decode cX10_theft 249 = .ok (.iadd, 1) := by decide +kernel
theorem dX10_theft_250 : decode cX10_theft 250 = .ok (.iaload, 1) := by decide +kernel
theorem dX10_theft_251 : decode cX10_theft 251 = .ok (.iadd, 1) := by decide +kernel
theorem dX10_theft_252 : decode cX10_theft 252 = .ok (.istore 9, 2) := by decide +kernel
theorem dX10_theft_254 : decode cX10_theft 254 = .ok (.aload_n 0, 1) := by decide +kernel
theorem dX10_theft_255 : decode cX10_theft 255 = .ok (.getfield 49, 3) := by decide +kernel
theorem dX10_theft_258 : decode cX10_theft 258 = .ok (.iload 8, 2) := by decide +kernel
theorem dX10_theft_260 : decode cX10_theft 260 = .ok (.bipush 12, 2) := by decide +kernel
theorem dX10_theft_262 : decode cX10_theft 262 = .ok (.iadd, 1) := by decide +kernel
theorem dX10_theft_263 : decode cX10_theft 263 = .ok (.iaload, 1) := by decide +kernel
theorem dX10_theft_264 : decode cX10_theft 264 = .ok (.aload_n 0, 1) := by decide +kernel
theorem dX10_theft_265 : decode cX10_theft 265 = .ok (.iload 7, 2) := by decide +kernel
theorem dX10_theft_267 : decode cX10_theft 267 = .ok (.invokevirtual 412, 3) := by decide +kernel
theorem dX10_theft_270 : decode cX10_theft 270 = .ok (.iadd, 1) := by decide +kernel
theorem dX10_theft_271 : decode cX10_theft 271 = .ok (.aload_n 0, 1) := by decide +kernel
theorem dX10_theft_272 : decode cX10_theft 272 = .ok (.getfield 52, 3) := by decide +kernel
theorem dX10_theft_275 : decode cX10_theft 275 = .ok (.iload 8, 2) := by decide +kernel
theorem dX10_theft_277 : decode cX10_theft 277 = .ok (.iaload, 1) := by decide +kernel
theorem dX10_theft_278 : decode cX10_theft 278 = .ok (.iadd, 1) := by decide +kernel
theorem dX10_theft_279 : decode cX10_theft 279 = .ok (.istore 10, 2) := by decide +kernel
theorem dX10_theft_281 : decode cX10_theft 281 = .ok (.iload 6, 2) := by decide +kernel
theorem dX10_theft_283 : decode cX10_theft 283 = .ok (.iload 9, 2) := by decide +kernel
theorem dX10_theft_285 : decode cX10_theft 285 = .ok (.iload 4, 2) := by decide +kernel
theorem dX10_theft_287 : decode cX10_theft 287 = .ok (.if_icmp .le 10, 3) := by decide +kernel
theorem dX10_theft_290 : decode cX10_theft 290 = .ok (.iload 10, 2) := by decide +kernel
theorem dX10_theft_292 : decode cX10_theft 292 = .ok (.iload 4, 2) := by decide +kernel
theorem dX10_theft_294 : decode cX10_theft 294 = .ok (.if_icmp .gt 10, 3) := by decide +kernel
theorem dX10_theft_297 : decode cX10_theft 297 = .ok (.iconst 1, 1) := by decide +kernel
theorem dX10_theft_298 : decode cX10_theft 298 = .ok (.iload 7, 2) := by decide +kernel
theorem dX10_theft_300 : decode cX10_theft 300 = .ok (.ishl, 1) := by decide +kernel
theorem dX10_theft_301 : decode cX10_theft 301 = .ok (.goto 4, 3) := by decide +kernel
theorem dX10_theft_304 : decode cX10_theft 304 = .ok (.iconst 0, 1) := by decide +kernel
theorem dX10_theft_305 : decode cX10_theft 305 = .ok (.ior, 1) := by decide +kernel
theorem dX10_theft_306 : decode cX10_theft 306 = .ok (.istore 6, 2) := by decide +kernel
theorem dX10_theft_308 : decode cX10_theft 308 = .ok (.iinc 7 1, 3) := by decide +kernel
theorem dX10_theft_311 : decode cX10_theft 311 = .ok (.goto (-125), 3) := by decide +kernel
theorem dX10_theft_314 : decode cX10_theft 314 = .ok (.aload_n 0, 1) := by decide +kernel
theorem dX10_theft_315 : decode cX10_theft 315 = .ok (.iload 6, 2) := by decide +kernel
theorem dX10_theft_317 : decode cX10_theft 317 = .ok (.invokevirtual 71, 3) := by decide +kernel
theorem dX10_theft_320 : decode cX10_theft 320 = .ok (.ireturn, 1) := by decide +kernel
theorem dX10_thrown_0 : decode cX10_thrown 0 = .ok (.aload_n 0, 1) := by decide +kernel
theorem dX10_thrown_1 : decode cX10_thrown 1 = .ok (.getfield 61, 3) := by decide +kernel
theorem dX10_thrown_4 : decode cX10_thrown 4 = .ok (.ireturn, 1) := by decide +kernel
theorem dX10_tolls_0 : decode cX10_tolls 0 = .ok (.aload_n 0, 1) := by decide +kernel
theorem dX10_tolls_1 : decode cX10_tolls 1 = .ok (.iconst 0, 1) := by decide +kernel
theorem dX10_tolls_2 : decode cX10_tolls 2 = .ok (.putfield 61, 3) := by decide +kernel
theorem dX10_tolls_5 : decode cX10_tolls 5 = .ok (.aload_n 0, 1) := by decide +kernel
theorem dX10_tolls_6 : decode cX10_tolls 6 = .ok (.iload_n 1, 1) := by decide +kernel
theorem dX10_tolls_7 : decode cX10_tolls 7 = .ok (.invokevirtual 346, 3) := by decide +kernel
theorem dX10_tolls_10 : decode cX10_tolls 10 = .ok (.ifCond .eq 20, 3) := by decide +kernel
theorem dX10_tolls_13 : decode cX10_tolls 13 = .ok (.aload_n 0, 1) := by decide +kernel
theorem dX10_tolls_14 : decode cX10_tolls 14 = .ok (.aload_n 0, 1) := by decide +kernel
theorem dX10_tolls_15 : decode cX10_tolls 15 = .ok (.getfield 31, 3) := by decide +kernel
theorem dX10_tolls_18 : decode cX10_tolls 18 = .ok (.sipush 648, 3) := by decide +kernel
theorem dX10_tolls_21 : decode cX10_tolls 21 = .ok (.iload_n 1, 1) := by decide +kernel
theorem dX10_tolls_22 : decode cX10_tolls 22 = .ok (.iadd, 1) := by decide +kernel
theorem dX10_tolls_23 : decode cX10_tolls 23 = .ok (.iaload, 1) := by decide +kernel
theorem dX10_tolls_24 : decode cX10_tolls 24 = .ok (.invokevirtual 71, 3) := by decide +kernel
theorem dX10_tolls_27 : decode cX10_tolls 27 = .ok (.goto 8, 3) := by decide +kernel
theorem dX10_tolls_30 : decode cX10_tolls 30 = .ok (.aload_n 0, 1) := by decide +kernel
theorem dX10_tolls_31 : decode cX10_tolls 31 = .ok (.iconst 1, 1) := by decide +kernel
theorem dX10_tolls_32 : decode cX10_tolls 32 = .ok (.invokevirtual 67, 3) := by decide +kernel
theorem dX10_tolls_35 : decode cX10_tolls 35 = .ok (.ireturn, 1) := by decide +kernel
theorem dX10_trouble_0 : decode cX10_trouble 0 = .ok (.aload_n 0, 1) := by decide +kernel
theorem dX10_trouble_1 : decode cX10_trouble 1 = .ok (.iconst 0, 1) := by decide +kernel
theorem dX10_trouble_2 : decode cX10_trouble 2 = .ok (.putfield 61, 3) := by decide +kernel
theorem dX10_trouble_5 : decode cX10_trouble 5 = .ok (.aload_n 0, 1) := by decide +kernel
theorem dX10_trouble_6 : decode cX10_trouble 6 = .ok (.getfield 64, 3) := by decide +kernel
theorem dX10_trouble_9 : decode cX10_trouble 9 = .ok (.ireturn, 1) := by decide +kernel
theorem dX10_undo_0 : decode cX10_undo 0 = .ok (.aload_n 0, 1) := by decide +kernel
theorem dX10_undo_1 : decode cX10_undo 1 = .ok (.iconst 0, 1) := by decide +kernel
theorem dX10_undo_2 : decode cX10_undo 2 = .ok (.putfield 61, 3) := by decide +kernel
theorem dX10_undo_5 : decode cX10_undo 5 = .ok (.aload_n 0, 1) := by decide +kernel
theorem dX10_undo_6 : decode cX10_undo 6 = .ok (.getfield 340, 3) := by decide +kernel
theorem dX10_undo_9 : decode cX10_undo 9 = .ok (.ifCond .ne 10, 3) := by decide +kernel
theorem dX10_undo_12 : decode cX10_undo 12 = .ok (.aload_n 0, 1) := by decide +kernel
theorem dX10_undo_13 : decode cX10_undo 13 = .ok (.bipush 6, 2) := by decide +kernel
theorem dX10_undo_15 : decode cX10_undo 15 = .ok (.invokevirtual 504, 3) := by decide +kernel
theorem dX10_undo_18 : decode cX10_undo 18 = .ok (.ireturn, 1) := by decide +kernel
theorem dX10_undo_19 : decode cX10_undo 19 = .ok (.aload_n 0, 1) := by decide +kernel
theorem dX10_undo_20 : decode cX10_undo 20 = .ok (.dup, 1) := by decide +kernel
theorem dX10_undo_21 : decode cX10_undo 21 = .ok (.getfield 340, 3) := by decide +kernel
theorem dX10_undo_24 : decode cX10_undo 24 = .ok (.iconst 1, 1) := by decide +kernel
theorem dX10_undo_25 : decode cX10_undo 25 = .ok (.isub, 1) := by decide +kernel
theorem dX10_undo_26 : decode cX10_undo 26 = .ok (.putfield 340, 3) := by decide +kernel
theorem dX10_undo_29 : decode cX10_undo 29 = .ok (.bipush 77, 2) := by decide +kernel
theorem dX10_undo_31 : decode cX10_undo 31 = .ok (.istore_n 1, 1) := by decide +kernel
theorem dX10_undo_32 : decode cX10_undo 32 = .ok (.iconst 0, 1) := by decide +kernel
theorem dX10_undo_33 : decode cX10_undo 33 = .ok (.istore_n 2, 1) := by decide +kernel
theorem dX10_undo_34 : decode cX10_undo 34 = .ok (.iload_n 2, 1) := by decide +kernel
theorem dX10_undo_35 : decode cX10_undo 35 = .ok (.iload_n 1, 1) := by decide +kernel
theorem dX10_undo_36 : decode cX10_undo 36 = .ok (.if_icmp .ge 28, 3) := by decide +kernel
theorem dX10_undo_39 : decode cX10_undo 39 = .ok (.aload_n 0, 1) := by decide +kernel
theorem dX10_undo_40 : decode cX10_undo 40 = .ok (.getfield 17, 3) := by decide +kernel
theorem dX10_undo_43 : decode cX10_undo 43 = .ok (.iload_n 2, 1) := by decide +kernel
theorem dX10_undo_44 : decode cX10_undo 44 = .ok (.aload_n 0, 1) := by decide +kernel
theorem dX10_undo_45 : decode cX10_undo 45 = .ok (.getfield 55, 3) := by decide +kernel
theorem dX10_undo_48 : decode cX10_undo 48 = .ok (.iload_n 1, 1) := by decide +kernel
theorem dX10_undo_49 : decode cX10_undo 49 = .ok (.aload_n 0, 1) := by decide +kernel
theorem dX10_undo_50 : decode cX10_undo 50 = .ok (.getfield 340, 3) := by decide +kernel
theorem dX10_undo_53 : decode cX10_undo 53 = .ok (.imul, 1) := by decide +kernel
theorem dX10_undo_54 : decode cX10_undo 54 = .ok (.iload_n 2, 1) := by decide +kernel
theorem dX10_undo_55 : decode cX10_undo 55 = .ok (.iadd, 1) := by decide +kernel
theorem dX10_undo_56 : decode cX10_undo 56 = .ok (.iaload, 1) := by decide +kernel
theorem dX10_undo_57 : decode cX10_undo 57 = .ok (.iastore, 1) := by decide +kernel
theorem dX10_undo_58 : decode cX10_undo 58 = .ok (.iinc 2 1, 3) := by decide +kernel
theorem dX10_undo_61 : decode cX10_undo 61 = .ok (.goto (-27), 3) := by decide +kernel
theorem dX10_undo_64 : decode cX10_undo 64 = .ok (.aload_n 0, 1) := by decide +kernel
theorem dX10_undo_65 : decode cX10_undo 65 = .ok (.aload_n 0, 1) := by decide +kernel
theorem dX10_undo_66 : decode cX10_undo 66 = .ok (.getfield 58, 3) := by decide +kernel
theorem dX10_undo_69 : decode cX10_undo 69 = .ok (.aload_n 0, 1) := by decide +kernel
theorem dX10_undo_70 : decode cX10_undo 70 = .ok (.getfield 340, 3) := by decide +kernel
theorem dX10_undo_73 : decode cX10_undo 73 = .ok (.iaload, 1) := by decide +kernel
theorem dX10_undo_74 : decode cX10_undo 74 = .ok (.putfield 339, 3) := by decide +kernel
theorem dX10_undo_77 : decode cX10_undo 77 = .ok (.aload_n 0, 1) := by decide +kernel
theorem dX10_undo_78 : decode cX10_undo 78 = .ok (.invokevirtual 343, 3) := by decide +kernel
theorem dX10_undo_81 : decode cX10_undo 81 = .ok (.aload_n 0, 1) := by decide +kernel
theorem dX10_undo_82 : decode cX10_undo 82 = .ok (.invokevirtual 507, 3) := by decide +kernel
theorem dX10_undo_85 : decode cX10_undo 85 = .ok (.ireturn, 1) := by decide +kernel
theorem dX10_upwards_0 : decode cX10_upwards 0 = .ok (.iload_n 0, 1) := by decide +kernel
theorem dX10_upwards_1 : decode cX10_upwards 1 = .ok (.iload_n 1, 1) := by decide +kernel
theorem dX10_upwards_2 : decode cX10_upwards 2 = .ok (.iadd, 1) := by decide +kernel
theorem dX10_upwards_3 : decode cX10_upwards 3 = .ok (.iconst 1, 1) := by decide +kernel
theorem dX10_upwards_4 : decode cX10_upwards 4 = .ok (.isub, 1) := by decide +kernel
theorem dX10_upwards_5 : decode cX10_upwards 5 = .ok (.iload_n 1, 1) := by decide +kernel
theorem dX10_upwards_6 : decode cX10_upwards 6 = .ok (.idiv, 1) := by decide +kernel
theorem dX10_upwards_7 : decode cX10_upwards 7 = .ok (.ireturn, 1) := by decide +kernel
theorem dX10_waited_0 : decode cX10_waited 0 = .ok (.aload_n 0, 1) := by decide +kernel
theorem dX10_waited_1 : decode cX10_waited 1 = .ok (.iconst 0, 1) := by decide +kernel
theorem dX10_waited_2 : decode cX10_waited 2 = .ok (.putfield 61, 3) := by decide +kernel
theorem dX10_waited_5 : decode cX10_waited 5 = .ok (.aload_n 0, 1) := by decide +kernel
theorem dX10_waited_6 : decode cX10_waited 6 = .ok (.getfield 336, 3) := by decide +kernel
theorem dX10_waited_9 : decode cX10_waited 9 = .ok (.ifnonnull 9, 3) := by decide +kernel
theorem dX10_waited_12 : decode cX10_waited 12 = .ok (.aload_n 0, 1) := by decide +kernel
theorem dX10_waited_13 : decode cX10_waited 13 = .ok (.iconst 1, 1) := by decide +kernel
theorem dX10_waited_14 : decode cX10_waited 14 = .ok (.invokevirtual 67, 3) := by decide +kernel
theorem dX10_waited_17 : decode cX10_waited 17 = .ok (.ireturn, 1) := by decide +kernel
theorem dX10_waited_18 : decode cX10_waited 18 = .ok (.iconst 0, 1) := by decide +kernel
theorem dX10_waited_19 : decode cX10_waited 19 = .ok (.istore_n 1, 1) := by decide +kernel
theorem dX10_waited_20 : decode cX10_waited 20 = .ok (.iconst 0, 1) := by decide +kernel
theorem dX10_waited_21 : decode cX10_waited 21 = .ok (.istore_n 2, 1) := by decide +kernel
theorem dX10_waited_22 : decode cX10_waited 22 = .ok (.iload_n 2, 1) := by decide +kernel
theorem dX10_waited_23 : decode cX10_waited 23 = .ok (.aload_n 0, 1) := by decide +kernel
theorem dX10_waited_24 : decode cX10_waited 24 = .ok (.getfield 471, 3) := by decide +kernel
theorem dX10_waited_27 : decode cX10_waited 27 = .ok (.if_icmp .ge 23, 3) := by decide +kernel
theorem dX10_waited_30 : decode cX10_waited 30 = .ok (.iload_n 1, 1) := by decide +kernel
theorem dX10_waited_31 : decode cX10_waited 31 = .ok (.aload_n 0, 1) := by decide +kernel
theorem dX10_waited_32 : decode cX10_waited 32 = .ok (.getfield 31, 3) := by decide +kernel
theorem dX10_waited_35 : decode cX10_waited 35 = .ok (.bipush 9, 2) := by decide +kernel
theorem dX10_waited_37 : decode cX10_waited 37 = .ok (.iload_n 2, 1) := by decide +kernel
theorem dX10_waited_38 : decode cX10_waited 38 = .ok (.imul, 1) := by decide +kernel
theorem dX10_waited_39 : decode cX10_waited 39 = .ok (.iconst 4, 1) := by decide +kernel
theorem dX10_waited_40 : decode cX10_waited 40 = .ok (.iadd, 1) := by decide +kernel
theorem dX10_waited_41 : decode cX10_waited 41 = .ok (.iaload, 1) := by decide +kernel
theorem dX10_waited_42 : decode cX10_waited 42 = .ok (.iadd, 1) := by decide +kernel
theorem dX10_waited_43 : decode cX10_waited 43 = .ok (.istore_n 1, 1) := by decide +kernel
theorem dX10_waited_44 : decode cX10_waited 44 = .ok (.iinc 2 1, 3) := by decide +kernel
theorem dX10_waited_47 : decode cX10_waited 47 = .ok (.goto (-25), 3) := by decide +kernel
theorem dX10_waited_50 : decode cX10_waited 50 = .ok (.aload_n 0, 1) := by decide +kernel
theorem dX10_waited_51 : decode cX10_waited 51 = .ok (.iload_n 1, 1) := by decide +kernel
theorem dX10_waited_52 : decode cX10_waited 52 = .ok (.invokevirtual 71, 3) := by decide +kernel
theorem dX10_waited_55 : decode cX10_waited 55 = .ok (.ireturn, 1) := by decide +kernel
theorem dX10_where_0 : decode cX10_where 0 = .ok (.aload_n 0, 1) := by decide +kernel
theorem dX10_where_1 : decode cX10_where 1 = .ok (.iconst 0, 1) := by decide +kernel
theorem dX10_where_2 : decode cX10_where 2 = .ok (.putfield 61, 3) := by decide +kernel
theorem dX10_where_5 : decode cX10_where 5 = .ok (.aload_n 0, 1) := by decide +kernel
theorem dX10_where_6 : decode cX10_where 6 = .ok (.getfield 9, 3) := by decide +kernel
theorem dX10_where_9 : decode cX10_where 9 = .ok (.ireturn, 1) := by decide +kernel
theorem dX10_wideIn_0 : decode cX10_wideIn 0 = .ok (.iload_n 1, 1) := by decide +kernel
theorem dX10_wideIn_1 : decode cX10_wideIn 1 = .ok (.iconst 1, 1) := by decide +kernel
theorem dX10_wideIn_2 : decode cX10_wideIn 2 = .ok (.if_icmp .ne 10, 3) := by decide +kernel
theorem dX10_wideIn_5 : decode cX10_wideIn 5 = .ok (.aload_n 0, 1) := by decide +kernel
theorem dX10_wideIn_6 : decode cX10_wideIn 6 = .ok (.getfield 364, 3) := by decide +kernel
theorem dX10_wideIn_9 : decode cX10_wideIn 9 = .ok (.goto 7, 3) := by decide +kernel
theorem dX10_wideIn_12 : decode cX10_wideIn 12 = .ok (.aload_n 0, 1) := by decide +kernel
theorem dX10_wideIn_13 : decode cX10_wideIn 13 = .ok (.getfield 362, 3) := by decide +kernel
theorem dX10_wideIn_16 : decode cX10_wideIn 16 = .ok (.ireturn, 1) := by decide +kernel
theorem dX10_widen_0 : decode cX10_widen 0 = .ok (.aload_n 0, 1) := by decide +kernel
theorem dX10_widen_1 : decode cX10_widen 1 = .ok (.iconst 0, 1) := by decide +kernel
theorem dX10_widen_2 : decode cX10_widen 2 = .ok (.putfield 61, 3) := by decide +kernel
theorem dX10_widen_5 : decode cX10_widen 5 = .ok (.aload_n 0, 1) := by decide +kernel
theorem dX10_widen_6 : decode cX10_widen 6 = .ok (.iload_n 1, 1) := by decide +kernel
theorem dX10_widen_7 : decode cX10_widen 7 = .ok (.invokevirtual 346, 3) := by decide +kernel
theorem dX10_widen_10 : decode cX10_widen 10 = .ok (.ifCond .ne 9, 3) := by decide +kernel
theorem dX10_widen_13 : decode cX10_widen 13 = .ok (.aload_n 0, 1) := by decide +kernel
theorem dX10_widen_14 : decode cX10_widen 14 = .ok (.iconst 1, 1) := by decide +kernel
theorem dX10_widen_15 : decode cX10_widen 15 = .ok (.invokevirtual 504, 3) := by decide +kernel
theorem dX10_widen_18 : decode cX10_widen 18 = .ok (.ireturn, 1) := by decide +kernel
theorem dX10_widen_19 : decode cX10_widen 19 = .ok (.iload_n 2, 1) := by decide +kernel
theorem dX10_widen_20 : decode cX10_widen 20 = .ok (.invokestatic 510, 3) := by decide +kernel
theorem dX10_widen_23 : decode cX10_widen 23 = .ok (.ifCond .eq 10, 3) := by decide +kernel
theorem dX10_widen_26 : decode cX10_widen 26 = .ok (.iload_n 3, 1) := by decide +kernel
theorem dX10_widen_27 : decode cX10_widen 27 = .ok (.invokestatic 510, 3) := by decide +kernel
theorem dX10_widen_30 : decode cX10_widen 30 = .ok (.ifCond .ne 9, 3) := by decide +kernel
theorem dX10_widen_33 : decode cX10_widen 33 = .ok (.aload_n 0, 1) := by decide +kernel
theorem dX10_widen_34 : decode cX10_widen 34 = .ok (.iconst 2, 1) := by decide +kernel
theorem dX10_widen_35 : decode cX10_widen 35 = .ok (.invokevirtual 504, 3) := by decide +kernel
theorem dX10_widen_38 : decode cX10_widen 38 = .ok (.ireturn, 1) := by decide +kernel
theorem dX10_widen_39 : decode cX10_widen 39 = .ok (.aload_n 0, 1) := by decide +kernel
theorem dX10_widen_40 : decode cX10_widen 40 = .ok (.iload_n 1, 1) := by decide +kernel
theorem dX10_widen_41 : decode cX10_widen 41 = .ok (.bipush 6, 2) := by decide +kernel
theorem dX10_widen_43 : decode cX10_widen 43 = .ok (.invokevirtual 349, 3) := by decide +kernel
theorem dX10_widen_46 : decode cX10_widen 46 = .ok (.iconst 1, 1) := by decide +kernel
theorem dX10_widen_47 : decode cX10_widen 47 = .ok (.if_icmp .eq 23, 3) := by decide +kernel
theorem dX10_widen_50 : decode cX10_widen 50 = .ok (.iload_n 2, 1) := by decide +kernel
theorem dX10_widen_51 : decode cX10_widen 51 = .ok (.aload_n 0, 1) := by decide +kernel
theorem dX10_widen_52 : decode cX10_widen 52 = .ok (.iload_n 1, 1) := by decide +kernel
theorem dX10_widen_53 : decode cX10_widen 53 = .ok (.iconst 2, 1) := by decide +kernel
theorem dX10_widen_54 : decode cX10_widen 54 = .ok (.invokevirtual 349, 3) := by decide +kernel
theorem dX10_widen_57 : decode cX10_widen 57 = .ok (.if_icmp .gt 19, 3) := by decide +kernel
theorem dX10_widen_60 : decode cX10_widen 60 = .ok (.iload_n 3, 1) := by decide +kernel
theorem dX10_widen_61 : decode cX10_widen 61 = .ok (.aload_n 0, 1) := by decide +kernel
theorem dX10_widen_62 : decode cX10_widen 62 = .ok (.iload_n 1, 1) := by decide +kernel
theorem dX10_widen_63 : decode cX10_widen 63 = .ok (.iconst 3, 1) := by decide +kernel
theorem dX10_widen_64 : decode cX10_widen 64 = .ok (.invokevirtual 349, 3) := by decide +kernel
theorem dX10_widen_67 : decode cX10_widen 67 = .ok (.if_icmp .gt 9, 3) := by decide +kernel
theorem dX10_widen_70 : decode cX10_widen 70 = .ok (.aload_n 0, 1) := by decide +kernel
theorem dX10_widen_71 : decode cX10_widen 71 = .ok (.iconst 5, 1) := by decide +kernel
theorem dX10_widen_72 : decode cX10_widen 72 = .ok (.invokevirtual 504, 3) := by decide +kernel
theorem dX10_widen_75 : decode cX10_widen 75 = .ok (.ireturn, 1) := by decide +kernel
theorem dX10_widen_76 : decode cX10_widen 76 = .ok (.aload_n 0, 1) := by decide +kernel
theorem dX10_widen_77 : decode cX10_widen 77 = .ok (.invokevirtual 532, 3) := by decide +kernel
theorem dX10_widen_80 : decode cX10_widen 80 = .ok (.bipush 7, 2) := by decide +kernel
theorem dX10_widen_82 : decode cX10_widen 82 = .ok (.iload_n 1, 1) := by decide +kernel
theorem dX10_widen_83 : decode cX10_widen 83 = .ok (.imul, 1) := by decide +kernel
theorem dX10_widen_84 : decode cX10_widen 84 = .ok (.istore 4, 2) := by decide +kernel
theorem dX10_widen_86 : decode cX10_widen 86 = .ok (.aload_n 0, 1) := by decide +kernel
theorem dX10_widen_87 : decode cX10_widen 87 = .ok (.getfield 17, 3) := by decide +kernel
theorem dX10_widen_90 : decode cX10_widen 90 = .ok (.iload 4, 2) := by decide +kernel
theorem dX10_widen_92 : decode cX10_widen 92 = .ok (.iconst 2, 1) := by decide +kernel
theorem dX10_widen_93 : decode cX10_widen 93 = .ok (.iadd, 1) := by decide +kernel
theorem dX10_widen_94 : decode cX10_widen 94 = .ok (.iload_n 2, 1) := by decide +kernel
theorem dX10_widen_95 : decode cX10_widen 95 = .ok (.aload_n 0, 1) := by decide +kernel
theorem dX10_widen_96 : decode cX10_widen 96 = .ok (.getfield 17, 3) := by decide +kernel
theorem dX10_widen_99 : decode cX10_widen 99 = .ok (.iload 4, 2) := by decide +kernel
theorem dX10_widen_101 : decode cX10_widen 101 = .ok (.iconst 2, 1) := by decide +kernel
theorem dX10_widen_102 : decode cX10_widen 102 = .ok (.iadd, 1) := by decide +kernel
theorem dX10_widen_103 : decode cX10_widen 103 = .ok (.iaload, 1) := by decide +kernel
theorem dX10_widen_104 : decode cX10_widen 104 = .ok (.if_icmp .le 7, 3) := by decide +kernel
theorem dX10_widen_107 : decode cX10_widen 107 = .ok (.iload_n 2, 1) := by decide +kernel
theorem dX10_widen_108 : decode cX10_widen 108 = .ok (.goto 12, 3) := by decide +kernel
theorem dX10_widen_111 : decode cX10_widen 111 = .ok (.aload_n 0, 1) := by decide +kernel
theorem dX10_widen_112 : decode cX10_widen 112 = .ok (.getfield 17, 3) := by decide +kernel
theorem dX10_widen_115 : decode cX10_widen 115 = .ok (.iload 4, 2) := by decide +kernel
theorem dX10_widen_117 : decode cX10_widen 117 = .ok (.iconst 2, 1) := by decide +kernel
theorem dX10_widen_118 : decode cX10_widen 118 = .ok (.iadd, 1) := by decide +kernel
theorem dX10_widen_119 : decode cX10_widen 119 = .ok (.iaload, 1) := by decide +kernel
theorem dX10_widen_120 : decode cX10_widen 120 = .ok (.iastore, 1) := by decide +kernel
theorem dX10_widen_121 : decode cX10_widen 121 = .ok (.aload_n 0, 1) := by decide +kernel
theorem dX10_widen_122 : decode cX10_widen 122 = .ok (.getfield 17, 3) := by decide +kernel
theorem dX10_widen_125 : decode cX10_widen 125 = .ok (.iload 4, 2) := by decide +kernel
theorem dX10_widen_127 : decode cX10_widen 127 = .ok (.iconst 3, 1) := by decide +kernel
theorem dX10_widen_128 : decode cX10_widen 128 = .ok (.iadd, 1) := by decide +kernel
theorem dX10_widen_129 : decode cX10_widen 129 = .ok (.iload_n 3, 1) := by decide +kernel
theorem dX10_widen_130 : decode cX10_widen 130 = .ok (.aload_n 0, 1) := by decide +kernel
theorem dX10_widen_131 : decode cX10_widen 131 = .ok (.getfield 17, 3) := by decide +kernel
theorem dX10_widen_134 : decode cX10_widen 134 = .ok (.iload 4, 2) := by decide +kernel
theorem dX10_widen_136 : decode cX10_widen 136 = .ok (.iconst 3, 1) := by decide +kernel
theorem dX10_widen_137 : decode cX10_widen 137 = .ok (.iadd, 1) := by decide +kernel
theorem dX10_widen_138 : decode cX10_widen 138 = .ok (.iaload, 1) := by decide +kernel
theorem dX10_widen_139 : decode cX10_widen 139 = .ok (.if_icmp .le 7, 3) := by decide +kernel
theorem dX10_widen_142 : decode cX10_widen 142 = .ok (.iload_n 3, 1) := by decide +kernel
theorem dX10_widen_143 : decode cX10_widen 143 = .ok (.goto 12, 3) := by decide +kernel
theorem dX10_widen_146 : decode cX10_widen 146 = .ok (.aload_n 0, 1) := by decide +kernel
theorem dX10_widen_147 : decode cX10_widen 147 = .ok (.getfield 17, 3) := by decide +kernel
theorem dX10_widen_150 : decode cX10_widen 150 = .ok (.iload 4, 2) := by decide +kernel
theorem dX10_widen_152 : decode cX10_widen 152 = .ok (.iconst 3, 1) := by decide +kernel
theorem dX10_widen_153 : decode cX10_widen 153 = .ok (.iadd, 1) := by decide +kernel
theorem dX10_widen_154 : decode cX10_widen 154 = .ok (.iaload, 1) := by decide +kernel
theorem dX10_widen_155 : decode cX10_widen 155 = .ok (.iastore, 1) := by decide +kernel
theorem dX10_widen_156 : decode cX10_widen 156 = .ok (.aload_n 0, 1) := by decide +kernel
theorem dX10_widen_157 : decode cX10_widen 157 = .ok (.invokevirtual 343, 3) := by decide +kernel
theorem dX10_widen_160 : decode cX10_widen 160 = .ok (.aload_n 0, 1) := by decide +kernel
theorem dX10_widen_161 : decode cX10_widen 161 = .ok (.invokevirtual 507, 3) := by decide +kernel
theorem dX10_widen_164 : decode cX10_widen 164 = .ok (.ireturn, 1) := by decide +kernel
theorem dX10_wordOf_0 : decode cX10_wordOf 0 = .ok (.lconst 0, 1) := by decide +kernel
theorem dX10_wordOf_1 : decode cX10_wordOf 1 = .ok (.lstore_n 1, 1) := by decide +kernel
theorem dX10_wordOf_2 : decode cX10_wordOf 2 = .ok (.iconst 0, 1) := by decide +kernel
theorem dX10_wordOf_3 : decode cX10_wordOf 3 = .ok (.istore_n 3, 1) := by decide +kernel
theorem dX10_wordOf_4 : decode cX10_wordOf 4 = .ok (.iload_n 3, 1) := by decide +kernel
theorem dX10_wordOf_5 : decode cX10_wordOf 5 = .ok (.aload_n 0, 1) := by decide +kernel
theorem dX10_wordOf_6 : decode cX10_wordOf 6 = .ok (.invokevirtual 77, 3) := by decide +kernel
theorem dX10_wordOf_9 : decode cX10_wordOf 9 = .ok (.if_icmp .ge 27, 3) := by decide +kernel
theorem dX10_wordOf_12 : decode cX10_wordOf 12 = .ok (.ldc2_w 83, 3) := by decide +kernel
theorem dX10_wordOf_15 : decode cX10_wordOf 15 = .ok (.lload_n 1, 1) := by decide +kernel
theorem dX10_wordOf_16 : decode cX10_wordOf 16 = .ok (.lmul, 1) := by decide +kernel
theorem dX10_wordOf_17 : decode cX10_wordOf 17 = .ok (.aload_n 0, 1) := by decide +kernel
theorem dX10_wordOf_18 : decode cX10_wordOf 18 = .ok (.iload_n 3, 1) := by decide +kernel
theorem dX10_wordOf_19 : decode cX10_wordOf 19 = .ok (.invokevirtual 85, 3) := by decide +kernel
theorem dX10_wordOf_22 : decode cX10_wordOf 22 = .ok (.bipush 97, 2) := by decide +kernel
theorem dX10_wordOf_24 : decode cX10_wordOf 24 = .ok (.isub, 1) := by decide +kernel
theorem dX10_wordOf_25 : decode cX10_wordOf 25 = .ok (.iconst 1, 1) := by decide +kernel
theorem dX10_wordOf_26 : decode cX10_wordOf 26 = .ok (.iadd, 1) := by decide +kernel
theorem dX10_wordOf_27 : decode cX10_wordOf 27 = .ok (.i2l, 1) := by decide +kernel
theorem dX10_wordOf_28 : decode cX10_wordOf 28 = .ok (.ladd, 1) := by decide +kernel
theorem dX10_wordOf_29 : decode cX10_wordOf 29 = .ok (.lstore_n 1, 1) := by decide +kernel
theorem dX10_wordOf_30 : decode cX10_wordOf 30 = .ok (.iinc 3 1, 3) := by decide +kernel
theorem dX10_wordOf_33 : decode cX10_wordOf 33 = .ok (.goto (-29), 3) := by decide +kernel
theorem dX10_wordOf_36 : decode cX10_wordOf 36 = .ok (.lload_n 1, 1) := by decide +kernel
theorem dX10_wordOf_37 : decode cX10_wordOf 37 = .ok (.lreturn, 1) := by decide +kernel
theorem dX10_worked_0 : decode cX10_worked 0 = .ok (.aload_n 0, 1) := by decide +kernel
theorem dX10_worked_1 : decode cX10_worked 1 = .ok (.iconst 0, 1) := by decide +kernel
theorem dX10_worked_2 : decode cX10_worked 2 = .ok (.putfield 61, 3) := by decide +kernel
theorem dX10_worked_5 : decode cX10_worked 5 = .ok (.aload_n 0, 1) := by decide +kernel
theorem dX10_worked_6 : decode cX10_worked 6 = .ok (.iload_n 1, 1) := by decide +kernel
theorem dX10_worked_7 : decode cX10_worked 7 = .ok (.invokevirtual 346, 3) := by decide +kernel
theorem dX10_worked_10 : decode cX10_worked 10 = .ok (.ifCond .eq 20, 3) := by decide +kernel
theorem dX10_worked_13 : decode cX10_worked 13 = .ok (.aload_n 0, 1) := by decide +kernel
theorem dX10_worked_14 : decode cX10_worked 14 = .ok (.aload_n 0, 1) := by decide +kernel
theorem dX10_worked_15 : decode cX10_worked 15 = .ok (.getfield 31, 3) := by decide +kernel
theorem dX10_worked_18 : decode cX10_worked 18 = .ok (.sipush 659, 3) := by decide +kernel
theorem dX10_worked_21 : decode cX10_worked 21 = .ok (.iload_n 1, 1) := by decide +kernel
theorem dX10_worked_22 : decode cX10_worked 22 = .ok (.iadd, 1) := by decide +kernel
theorem dX10_worked_23 : decode cX10_worked 23 = .ok (.iaload, 1) := by decide +kernel
theorem dX10_worked_24 : decode cX10_worked 24 = .ok (.invokevirtual 71, 3) := by decide +kernel
theorem dX10_worked_27 : decode cX10_worked 27 = .ok (.goto 8, 3) := by decide +kernel
theorem dX10_worked_30 : decode cX10_worked 30 = .ok (.aload_n 0, 1) := by decide +kernel
theorem dX10_worked_31 : decode cX10_worked 31 = .ok (.iconst 1, 1) := by decide +kernel
theorem dX10_worked_32 : decode cX10_worked 32 = .ok (.invokevirtual 67, 3) := by decide +kernel
theorem dX10_worked_35 : decode cX10_worked 35 = .ok (.ireturn, 1) := by decide +kernel
theorem dX10_wrong_0 : decode cX10_wrong 0 = .ok (.aload_n 0, 1) := by decide +kernel
theorem dX10_wrong_1 : decode cX10_wrong 1 = .ok (.getfield 89, 3) := by decide +kernel
theorem dX10_wrong_4 : decode cX10_wrong 4 = .ok (.iconst 5, 1) := by decide +kernel
theorem dX10_wrong_5 : decode cX10_wrong 5 = .ok (.if_icmp .ne 4, 3) := by decide +kernel
theorem dX10_wrong_8 : decode cX10_wrong 8 = .ok (.return_, 1) := by decide +kernel
theorem dX10_wrong_9 : decode cX10_wrong 9 = .ok (.aload_n 0, 1) := by decide +kernel
theorem dX10_wrong_10 : decode cX10_wrong 10 = .ok (.iload_n 1, 1) := by decide +kernel
theorem dX10_wrong_11 : decode cX10_wrong 11 = .ok (.putfield 118, 3) := by decide +kernel
theorem dX10_wrong_14 : decode cX10_wrong 14 = .ok (.aload_n 0, 1) := by decide +kernel
theorem dX10_wrong_15 : decode cX10_wrong 15 = .ok (.aload_n 0, 1) := by decide +kernel
theorem dX10_wrong_16 : decode cX10_wrong 16 = .ok (.getfield 98, 3) := by decide +kernel
theorem dX10_wrong_19 : decode cX10_wrong 19 = .ok (.putfield 121, 3) := by decide +kernel
theorem dX10_wrong_22 : decode cX10_wrong 22 = .ok (.aload_n 0, 1) := by decide +kernel
theorem dX10_wrong_23 : decode cX10_wrong 23 = .ok (.iconst 5, 1) := by decide +kernel
theorem dX10_wrong_24 : decode cX10_wrong 24 = .ok (.putfield 89, 3) := by decide +kernel
theorem dX10_wrong_27 : decode cX10_wrong 27 = .ok (.return_, 1) := by decide +kernel
theorem dX9_adds_0 : decode cX9_adds 0 = .ok (.aload_n 0, 1) := by decide +kernel
theorem dX9_adds_1 : decode cX9_adds 1 = .ok (.getfield 73, 3) := by decide +kernel
theorem dX9_adds_4 : decode cX9_adds 4 = .ok (.aload_n 0, 1) := by decide +kernel
theorem dX9_adds_5 : decode cX9_adds 5 = .ok (.getfield 80, 3) := by decide +kernel
theorem dX9_adds_8 : decode cX9_adds 8 = .ok (.lload_n 1, 1) := by decide +kernel
theorem dX9_adds_9 : decode cX9_adds 9 = .ok (.lastore, 1) := by decide +kernel
theorem dX9_adds_10 : decode cX9_adds 10 = .ok (.aload_n 0, 1) := by decide +kernel
theorem dX9_adds_11 : decode cX9_adds 11 = .ok (.getfield 77, 3) := by decide +kernel
theorem dX9_adds_14 : decode cX9_adds 14 = .ok (.aload_n 0, 1) := by decide +kernel
theorem dX9_adds_15 : decode cX9_adds 15 = .ok (.getfield 80, 3) := by decide +kernel
theorem dX9_adds_18 : decode cX9_adds 18 = .ok (.iload_n 3, 1) := by decide +kernel
theorem dX9_adds_19 : decode cX9_adds 19 = .ok (.iastore, 1) := by decide +kernel
theorem dX9_adds_20 : decode cX9_adds 20 = .ok (.aload_n 0, 1) := by decide +kernel
theorem dX9_adds_21 : decode cX9_adds 21 = .ok (.dup, 1) := by decide +kernel
theorem dX9_adds_22 : decode cX9_adds 22 = .ok (.getfield 80, 3) := by decide +kernel
theorem dX9_adds_25 : decode cX9_adds 25 = .ok (.iconst 1, 1) := by decide +kernel
theorem dX9_adds_26 : decode cX9_adds 26 = .ok (.iadd, 1) := by decide +kernel
theorem dX9_adds_27 : decode cX9_adds 27 = .ok (.putfield 80, 3) := by decide +kernel
theorem dX9_adds_30 : decode cX9_adds 30 = .ok (.return_, 1) := by decide +kernel
theorem dX9_find_0 : decode cX9_find 0 = .ok (.iconst 0, 1) := by decide +kernel
theorem dX9_find_1 : decode cX9_find 1 = .ok (.istore_n 3, 1) := by decide +kernel
theorem dX9_find_2 : decode cX9_find 2 = .ok (.iload_n 3, 1) := by decide +kernel
theorem dX9_find_3 : decode cX9_find 3 = .ok (.aload_n 0, 1) := by decide +kernel
theorem dX9_find_4 : decode cX9_find 4 = .ok (.getfield 80, 3) := by decide +kernel
theorem dX9_find_7 : decode cX9_find 7 = .ok (.if_icmp .ge 22, 3) := by decide +kernel
theorem dX9_find_10 : decode cX9_find 10 = .ok (.aload_n 0, 1) := by decide +kernel
theorem dX9_find_11 : decode cX9_find 11 = .ok (.getfield 73, 3) := by decide +kernel
theorem dX9_find_14 : decode cX9_find 14 = .ok (.iload_n 3, 1) := by decide +kernel
theorem dX9_find_15 : decode cX9_find 15 = .ok (.laload, 1) := by decide +kernel
theorem dX9_find_16 : decode cX9_find 16 = .ok (.lload_n 1, 1) := by decide +kernel
theorem dX9_find_17 : decode cX9_find 17 = .ok (.lcmp, 1) := by decide +kernel
theorem dX9_find_18 : decode cX9_find 18 = .ok (.ifCond .ne 5, 3) := by decide +kernel
theorem dX9_find_21 : decode cX9_find 21 = .ok (.iload_n 3, 1) := by decide +kernel
theorem dX9_find_22 : decode cX9_find 22 = .ok (.ireturn, 1) := by decide +kernel
theorem dX9_find_23 : decode cX9_find 23 = .ok (.iinc 3 1, 3) := by decide +kernel
theorem dX9_find_26 : decode cX9_find 26 = .ok (.goto (-24), 3) := by decide +kernel
theorem dX9_find_29 : decode cX9_find 29 = .ok (.iconst (-1), 1) := by decide +kernel
theorem dX9_find_30 : decode cX9_find 30 = .ok (.ireturn, 1) := by decide +kernel
theorem dX9_init_0 : decode cX9_init 0 = .ok (.aload_n 0, 1) := by decide +kernel
theorem dX9_init_1 : decode cX9_init 1 = .ok (.invokespecial 3, 3) := by decide +kernel
theorem dX9_init_4 : decode cX9_init 4 = .ok (.aload_n 0, 1) := by decide +kernel
theorem dX9_init_5 : decode cX9_init 5 = .ok (.bipush 6, 2) := by decide +kernel
theorem dX9_init_7 : decode cX9_init 7 = .ok (.newarray .int, 2) := by decide +kernel
theorem dX9_init_9 : decode cX9_init 9 = .ok (.putfield 9, 3) := by decide +kernel
theorem dX9_init_12 : decode cX9_init 12 = .ok (.aload_n 0, 1) := by decide +kernel
theorem dX9_init_13 : decode cX9_init 13 = .ok (.bipush 6, 2) := by decide +kernel
theorem dX9_init_15 : decode cX9_init 15 = .ok (.newarray .int, 2) := by decide +kernel
theorem dX9_init_17 : decode cX9_init 17 = .ok (.putfield 15, 3) := by decide +kernel
theorem dX9_init_20 : decode cX9_init 20 = .ok (.aload_n 0, 1) := by decide +kernel
theorem dX9_init_21 : decode cX9_init 21 = .ok (.bipush 6, 2) := by decide +kernel
theorem dX9_init_23 : decode cX9_init 23 = .ok (.newarray .int, 2) := by decide +kernel
theorem dX9_init_25 : decode cX9_init 25 = .ok (.putfield 18, 3) := by decide +kernel
theorem dX9_init_28 : decode cX9_init 28 = .ok (.aload_n 0, 1) := by decide +kernel
theorem dX9_init_29 : decode cX9_init 29 = .ok (.bipush 6, 2) := by decide +kernel
theorem dX9_init_31 : decode cX9_init 31 = .ok (.newarray .boolean, 2) := by decide +kernel
theorem dX9_init_33 : decode cX9_init 33 = .ok (.putfield 21, 3) := by decide +kernel
theorem dX9_init_36 : decode cX9_init 36 = .ok (.aload_n 0, 1) := by decide +kernel
theorem dX9_init_37 : decode cX9_init 37 = .ok (.bipush 8, 2) := by decide +kernel
theorem dX9_init_39 : decode cX9_init 39 = .ok (.newarray .boolean, 2) := by decide +kernel
theorem dX9_init_41 : decode cX9_init 41 = .ok (.putfield 25, 3) := by decide +kernel
theorem dX9_init_44 : decode cX9_init 44 = .ok (.aload_n 0, 1) := by decide +kernel
theorem dX9_init_45 : decode cX9_init 45 = .ok (.bipush 8, 2) := by decide +kernel
theorem dX9_init_47 : decode cX9_init 47 = .ok (.newarray .boolean, 2) := by decide +kernel
theorem dX9_init_49 : decode cX9_init 49 = .ok (.putfield 28, 3) := by decide +kernel
theorem dX9_init_52 : decode cX9_init 52 = .ok (.aload_n 0, 1) := by decide +kernel
theorem dX9_init_53 : decode cX9_init 53 = .ok (.bipush 77, 2) := by decide +kernel
theorem dX9_init_55 : decode cX9_init 55 = .ok (.newarray .int, 2) := by decide +kernel
theorem dX9_init_57 : decode cX9_init 57 = .ok (.putfield 31, 3) := by decide +kernel
theorem dX9_init_60 : decode cX9_init 60 = .ok (.aload_n 0, 1) := by decide +kernel
theorem dX9_init_61 : decode cX9_init 61 = .ok (.bipush 8, 2) := by decide +kernel
theorem dX9_init_63 : decode cX9_init 63 = .ok (.newarray .int, 2) := by decide +kernel
theorem dX9_init_65 : decode cX9_init 65 = .ok (.putfield 34, 3) := by decide +kernel
theorem dX9_init_68 : decode cX9_init 68 = .ok (.aload_n 0, 1) := by decide +kernel
theorem dX9_init_69 : decode cX9_init 69 = .ok (.bipush 8, 2) := by decide +kernel
theorem dX9_init_71 : decode cX9_init 71 = .ok (.newarray .int, 2) := by decide +kernel
theorem dX9_init_73 : decode cX9_init 73 = .ok (.putfield 37, 3) := by decide +kernel
theorem dX9_init_76 : decode cX9_init 76 = .ok (.aload_n 0, 1) := by decide +kernel
theorem dX9_init_77 : decode cX9_init 77 = .ok (.bipush 8, 2) := by decide +kernel
theorem dX9_init_79 : decode cX9_init 79 = .ok (.newarray .int, 2) := by decide +kernel
theorem dX9_init_81 : decode cX9_init 81 = .ok (.putfield 40, 3) := by decide +kernel
theorem dX9_init_84 : decode cX9_init 84 = .ok (.aload_n 0, 1) := by decide +kernel
theorem dX9_init_85 : decode cX9_init 85 = .ok (.bipush 8, 2) := by decide +kernel
theorem dX9_init_87 : decode cX9_init 87 = .ok (.newarray .int, 2) := by decide +kernel
theorem dX9_init_89 : decode cX9_init 89 = .ok (.putfield 43, 3) := by decide +kernel
theorem dX9_init_92 : decode cX9_init 92 = .ok (.aload_n 0, 1) := by decide +kernel
theorem dX9_init_93 : decode cX9_init 93 = .ok (.bipush 8, 2) := by decide +kernel
theorem dX9_init_95 : decode cX9_init 95 = .ok (.newarray .int, 2) := by decide +kernel
theorem dX9_init_97 : decode cX9_init 97 = .ok (.putfield 46, 3) := by decide +kernel
theorem dX9_init_100 : decode cX9_init 100 = .ok (.aload_n 0, 1) := by decide +kernel
theorem dX9_init_101 : decode cX9_init 101 = .ok (.bipush 8, 2) := by decide +kernel
theorem dX9_init_103 : decode cX9_init 103 = .ok (.newarray .int, 2) := by decide +kernel
theorem dX9_init_105 : decode cX9_init 105 = .ok (.putfield 49, 3) := by decide +kernel
theorem dX9_init_108 : decode cX9_init 108 = .ok (.aload_n 0, 1) := by decide +kernel
theorem dX9_init_109 : decode cX9_init 109 = .ok (.bipush 8, 2) := by decide +kernel
theorem dX9_init_111 : decode cX9_init 111 = .ok (.newarray .int, 2) := by decide +kernel
theorem dX9_init_113 : decode cX9_init 113 = .ok (.putfield 52, 3) := by decide +kernel
theorem dX9_init_116 : decode cX9_init 116 = .ok (.aload_n 0, 1) := by decide +kernel
theorem dX9_init_117 : decode cX9_init 117 = .ok (.bipush 8, 2) := by decide +kernel
theorem dX9_init_119 : decode cX9_init 119 = .ok (.newarray .int, 2) := by decide +kernel
theorem dX9_init_121 : decode cX9_init 121 = .ok (.putfield 55, 3) := by decide +kernel
theorem dX9_init_124 : decode cX9_init 124 = .ok (.aload_n 0, 1) := by decide +kernel
theorem dX9_init_125 : decode cX9_init 125 = .ok (.bipush 8, 2) := by decide +kernel
theorem dX9_init_127 : decode cX9_init 127 = .ok (.newarray .int, 2) := by decide +kernel
theorem dX9_init_129 : decode cX9_init 129 = .ok (.putfield 58, 3) := by decide +kernel
theorem dX9_init_132 : decode cX9_init 132 = .ok (.aload_n 0, 1) := by decide +kernel
theorem dX9_init_133 : decode cX9_init 133 = .ok (.bipush 8, 2) := by decide +kernel
theorem dX9_init_135 : decode cX9_init 135 = .ok (.newarray .int, 2) := by decide +kernel
theorem dX9_init_137 : decode cX9_init 137 = .ok (.putfield 61, 3) := by decide +kernel
theorem dX9_init_140 : decode cX9_init 140 = .ok (.aload_n 0, 1) := by decide +kernel
theorem dX9_init_141 : decode cX9_init 141 = .ok (.bipush 8, 2) := by decide +kernel
theorem dX9_init_143 : decode cX9_init 143 = .ok (.newarray .int, 2) := by decide +kernel
theorem dX9_init_145 : decode cX9_init 145 = .ok (.putfield 64, 3) := by decide +kernel
theorem dX9_init_148 : decode cX9_init 148 = .ok (.aload_n 0, 1) := by decide +kernel
theorem dX9_init_149 : decode cX9_init 149 = .ok (.bipush 8, 2) := by decide +kernel
theorem dX9_init_151 : decode cX9_init 151 = .ok (.newarray .int, 2) := by decide +kernel
theorem dX9_init_153 : decode cX9_init 153 = .ok (.putfield 67, 3) := by decide +kernel
theorem dX9_init_156 : decode cX9_init 156 = .ok (.aload_n 0, 1) := by decide +kernel
theorem dX9_init_157 : decode cX9_init 157 = .ok (.bipush 8, 2) := by decide +kernel
theorem dX9_init_159 : decode cX9_init 159 = .ok (.newarray .int, 2) := by decide +kernel
theorem dX9_init_161 : decode cX9_init 161 = .ok (.putfield 70, 3) := by decide +kernel
theorem dX9_init_164 : decode cX9_init 164 = .ok (.aload_n 0, 1) := by decide +kernel
theorem dX9_init_165 : decode cX9_init 165 = .ok (.bipush 35, 2) := by decide +kernel
theorem dX9_init_167 : decode cX9_init 167 = .ok (.newarray .long, 2) := by decide +kernel
theorem dX9_init_169 : decode cX9_init 169 = .ok (.putfield 73, 3) := by decide +kernel
theorem dX9_init_172 : decode cX9_init 172 = .ok (.aload_n 0, 1) := by decide +kernel
theorem dX9_init_173 : decode cX9_init 173 = .ok (.bipush 35, 2) := by decide +kernel
theorem dX9_init_175 : decode cX9_init 175 = .ok (.newarray .int, 2) := by decide +kernel
theorem dX9_init_177 : decode cX9_init 177 = .ok (.putfield 77, 3) := by decide +kernel
theorem dX9_init_180 : decode cX9_init 180 = .ok (.return_, 1) := by decide +kernel
