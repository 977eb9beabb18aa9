theorem dX8_all_0 : decode cX8_all 0 = .ok (.aload_n 0, 1) := by decide +kernel
theorem dX8_all_1 : decode cX8_all 1 = .ok (.invokevirtual 202, 3) := by decide +kernel
theorem dX8_all_4 : decode cX8_all 4 = .ok (.ifCond .ne 9, 3) := by decide +kernel
theorem dX8_all_7 : decode cX8_all 7 = .ok (.aload_n 0, 1) := by decide +kernel
theorem dX8_all_8 : decode cX8_all 8 = .ok (.iconst 1, 1) := by decide +kernel
theorem dX8_all_9 : decode cX8_all 9 = .ok (.invokevirtual 97, 3) := by decide +kernel
theorem dX8_all_12 : decode cX8_all 12 = .ok (.ireturn, 1) := by decide +kernel
theorem dX8_all_13 : decode cX8_all 13 = .ok (.aload_n 0, 1) := by decide +kernel
theorem dX8_all_14 : decode cX8_all 14 = .ok (.aload_n 0, 1) := by decide +kernel
theorem dX8_all_15 : decode cX8_all 15 = .ok (.invokevirtual 206, 3) := by decide +kernel
theorem dX8_all_18 : decode cX8_all 18 = .ok (.invokevirtual 123, 3) := by decide +kernel
theorem dX8_all_21 : decode cX8_all 21 = .ok (.ireturn, 1) := by decide +kernel
theorem dX8_allPay_0 : decode cX8_allPay 0 = .ok (.iconst 0, 1) := by decide +kernel
theorem dX8_allPay_1 : decode cX8_allPay 1 = .ok (.istore_n 1, 1) := by decide +kernel
theorem dX8_allPay_2 : decode cX8_allPay 2 = .ok (.iconst 0, 1) := by decide +kernel
theorem dX8_allPay_3 : decode cX8_allPay 3 = .ok (.istore_n 2, 1) := by decide +kernel
theorem dX8_allPay_4 : decode cX8_allPay 4 = .ok (.iload_n 2, 1) := by decide +kernel
theorem dX8_allPay_5 : decode cX8_allPay 5 = .ok (.aload_n 0, 1) := by decide +kernel
theorem dX8_allPay_6 : decode cX8_allPay 6 = .ok (.getfield 16, 3) := by decide +kernel
theorem dX8_allPay_9 : decode cX8_allPay 9 = .ok (.getfield 293, 3) := by decide +kernel
theorem dX8_allPay_12 : decode cX8_allPay 12 = .ok (.if_icmp .ge 39, 3) := by decide +kernel
theorem dX8_allPay_15 : decode cX8_allPay 15 = .ok (.iload_n 1, 1) := by decide +kernel
theorem dX8_allPay_16 : decode cX8_allPay 16 = .ok (.aload_n 0, 1) := by decide +kernel
theorem dX8_allPay_17 : decode cX8_allPay 17 = .ok (.getfield 43, 3) := by decide +kernel
theorem dX8_allPay_20 : decode cX8_allPay 20 = .ok (.iload_n 2, 1) := by decide +kernel
theorem dX8_allPay_21 : decode cX8_allPay 21 = .ok (.aaload, 1) := by decide +kernel
theorem dX8_allPay_22 : decode cX8_allPay 22 = .ok (.getfield 181, 3) := by decide +kernel
theorem dX8_allPay_25 : decode cX8_allPay 25 = .ok (.ifCond .eq 15, 3) := by decide +kernel
theorem dX8_allPay_28 : decode cX8_allPay 28 = .ok (.aload_n 0, 1) := by decide +kernel
theorem dX8_allPay_29 : decode cX8_allPay 29 = .ok (.getfield 43, 3) := by decide +kernel
theorem dX8_allPay_32 : decode cX8_allPay 32 = .ok (.iload_n 2, 1) := by decide +kernel
theorem dX8_allPay_33 : decode cX8_allPay 33 = .ok (.aaload, 1) := by decide +kernel
theorem dX8_allPay_34 : decode cX8_allPay 34 = .ok (.getfield 185, 3) := by decide +kernel
theorem dX8_allPay_37 : decode cX8_allPay 37 = .ok (.goto 6, 3) := by decide +kernel
theorem dX8_allPay_40 : decode cX8_allPay 40 = .ok (.sipush 9999, 3) := by decide +kernel
theorem dX8_allPay_43 : decode cX8_allPay 43 = .ok (.iadd, 1) := by decide +kernel
theorem dX8_allPay_44 : decode cX8_allPay 44 = .ok (.istore_n 1, 1) := by decide +kernel
theorem dX8_allPay_45 : decode cX8_allPay 45 = .ok (.iinc 2 1, 3) := by decide +kernel
theorem dX8_allPay_48 : decode cX8_allPay 48 = .ok (.goto (-44), 3) := by decide +kernel
theorem dX8_allPay_51 : decode cX8_allPay 51 = .ok (.iload_n 1, 1) := by decide +kernel
theorem dX8_allPay_52 : decode cX8_allPay 52 = .ok (.ireturn, 1) := by decide +kernel
theorem dX8_allow_0 : decode cX8_allow 0 = .ok (.aload_n 0, 1) := by decide +kernel
theorem dX8_allow_1 : decode cX8_allow 1 = .ok (.iconst 0, 1) := by decide +kernel
theorem dX8_allow_2 : decode cX8_allow 2 = .ok (.putfield 126, 3) := by decide +kernel
theorem dX8_allow_5 : decode cX8_allow 5 = .ok (.iconst 1, 1) := by decide +kernel
theorem dX8_allow_6 : decode cX8_allow 6 = .ok (.ireturn, 1) := by decide +kernel
theorem dX8_anew_0 : decode cX8_anew 0 = .ok (.aload_n 0, 1) := by decide +kernel
theorem dX8_anew_1 : decode cX8_anew 1 = .ok (.invokevirtual 202, 3) := by decide +kernel
theorem dX8_anew_4 : decode cX8_anew 4 = .ok (.ifCond .ne 9, 3) := by decide +kernel
theorem dX8_anew_7 : decode cX8_anew 7 = .ok (.aload_n 0, 1) := by decide +kernel
theorem dX8_anew_8 : decode cX8_anew 8 = .ok (.iconst 1, 1) := by decide +kernel
theorem dX8_anew_9 : decode cX8_anew 9 = .ok (.invokevirtual 216, 3) := by decide +kernel
theorem dX8_anew_12 : decode cX8_anew 12 = .ok (.ireturn, 1) := by decide +kernel
theorem dX8_anew_13 : decode cX8_anew 13 = .ok (.aload_n 0, 1) := by decide +kernel
theorem dX8_anew_14 : decode cX8_anew 14 = .ok (.getfield 60, 3) := by decide +kernel
theorem dX8_anew_17 : decode cX8_anew 17 = .ok (.aload_n 0, 1) := by decide +kernel
theorem dX8_anew_18 : decode cX8_anew 18 = .ok (.getfield 16, 3) := by decide +kernel
theorem dX8_anew_21 : decode cX8_anew 21 = .ok (.aload_n 0, 1) := by decide +kernel
theorem dX8_anew_22 : decode cX8_anew 22 = .ok (.getfield 43, 3) := by decide +kernel
theorem dX8_anew_25 : decode cX8_anew 25 = .ok (.invokevirtual 219, 3) := by decide +kernel
theorem dX8_anew_28 : decode cX8_anew 28 = .ok (.aload_n 0, 1) := by decide +kernel
theorem dX8_anew_29 : decode cX8_anew 29 = .ok (.invokevirtual 222, 3) := by decide +kernel
theorem dX8_anew_32 : decode cX8_anew 32 = .ok (.ireturn, 1) := by decide +kernel
theorem dX8_apart_0 : decode cX8_apart 0 = .ok (.iload_n 0, 1) := by decide +kernel
theorem dX8_apart_1 : decode cX8_apart 1 = .ok (.iload_n 1, 1) := by decide +kernel
theorem dX8_apart_2 : decode cX8_apart 2 = .ok (.if_icmp .ge 9, 3) := by decide +kernel
theorem dX8_apart_5 : decode cX8_apart 5 = .ok (.iload_n 1, 1) := by decide +kernel
theorem dX8_apart_6 : decode cX8_apart 6 = .ok (.iload_n 0, 1) := by decide +kernel
theorem dX8_apart_7 : decode cX8_apart 7 = .ok (.isub, 1) := by decide +kernel
theorem dX8_apart_8 : decode cX8_apart 8 = .ok (.goto 6, 3) := by decide +kernel
theorem dX8_apart_11 : decode cX8_apart 11 = .ok (.iload_n 0, 1) := by decide +kernel
theorem dX8_apart_12 : decode cX8_apart 12 = .ok (.iload_n 1, 1) := by decide +kernel
theorem dX8_apart_13 : decode cX8_apart 13 = .ok (.isub, 1) := by decide +kernel
theorem dX8_apart_14 : decode cX8_apart 14 = .ok (.istore_n 2, 1) := by decide +kernel
theorem dX8_apart_15 : decode cX8_apart 15 = .ok (.iload_n 2, 1) := by decide +kernel
theorem dX8_apart_16 : decode cX8_apart 16 = .ok (.bipush 12, 2) := by decide +kernel
theorem dX8_apart_18 : decode cX8_apart 18 = .ok (.iload_n 2, 1) := by decide +kernel
theorem dX8_apart_19 : decode cX8_apart 19 = .ok (.isub, 1) := by decide +kernel
theorem dX8_apart_20 : decode cX8_apart 20 = .ok (.if_icmp .gt 7, 3) := by decide +kernel
theorem dX8_apart_23 : decode cX8_apart 23 = .ok (.iload_n 2, 1) := by decide +kernel
theorem dX8_apart_24 : decode cX8_apart 24 = .ok (.goto 7, 3) := by decide +kernel
theorem dX8_apart_27 : decode cX8_apart 27 = .ok (.bipush 12, 2) := by decide +kernel
theorem dX8_apart_29 : decode cX8_apart 29 = .ok (.iload_n 2, 1) := by decide +kernel
theorem dX8_apart_30 : decode cX8_apart 30 = .ok (.isub, 1) := by decide +kernel
theorem dX8_apart_31 : decode cX8_apart 31 = .ok (.ireturn, 1) := by decide +kernel
theorem dX8_append_0 : decode cX8_append 0 = .ok (.bipush 24, 2) := by decide +kernel
theorem dX8_append_2 : decode cX8_append 2 = .ok (.istore_n 2, 1) := by decide +kernel
theorem dX8_append_3 : decode cX8_append 3 = .ok (.iload_n 2, 1) := by decide +kernel
theorem dX8_append_4 : decode cX8_append 4 = .ok (.ifCond .lt 45, 3) := by decide +kernel
theorem dX8_append_7 : decode cX8_append 7 = .ok (.aload_n 0, 1) := by decide +kernel
theorem dX8_append_8 : decode cX8_append 8 = .ok (.getfield 89, 3) := by decide +kernel
theorem dX8_append_11 : decode cX8_append 11 = .ok (.sipush 900, 3) := by decide +kernel
theorem dX8_append_14 : decode cX8_append 14 = .ok (.if_icmp .ge 35, 3) := by decide +kernel
theorem dX8_append_17 : decode cX8_append 17 = .ok (.aload_n 0, 1) := by decide +kernel
theorem dX8_append_18 : decode cX8_append 18 = .ok (.getfield 9, 3) := by decide +kernel
theorem dX8_append_21 : decode cX8_append 21 = .ok (.aload_n 0, 1) := by decide +kernel
theorem dX8_append_22 : decode cX8_append 22 = .ok (.getfield 89, 3) := by decide +kernel
theorem dX8_append_25 : decode cX8_append 25 = .ok (.iload_n 1, 1) := by decide +kernel
theorem dX8_append_26 : decode cX8_append 26 = .ok (.iload_n 2, 1) := by decide +kernel
theorem dX8_append_27 : decode cX8_append 27 = .ok (.iushr, 1) := by decide +kernel
theorem dX8_append_28 : decode cX8_append 28 = .ok (.sipush 255, 3) := by decide +kernel
theorem dX8_append_31 : decode cX8_append 31 = .ok (.iand, 1) := by decide +kernel
theorem dX8_append_32 : decode cX8_append 32 = .ok (.iastore, 1) := by decide +kernel
theorem dX8_append_33 : decode cX8_append 33 = .ok (.aload_n 0, 1) := by decide +kernel
theorem dX8_append_34 : decode cX8_append 34 = .ok (.dup, 1) := by decide +kernel
theorem dX8_append_35 : decode cX8_append 35 = .ok (.getfield 89, 3) := by decide +kernel
theorem dX8_append_38 : decode cX8_append 38 = .ok (.iconst 1, 1) := by decide +kernel
theorem dX8_append_39 : decode cX8_append 39 = .ok (.iadd, 1) := by decide +kernel
theorem dX8_append_40 : decode cX8_append 40 = .ok (.putfield 89, 3) := by decide +kernel
theorem dX8_append_43 : decode cX8_append 43 = .ok (.iinc 2 (-8), 3) := by decide +kernel
theorem dX8_append_46 : decode cX8_append 46 = .ok (.goto (-43), 3) := by decide +kernel
theorem dX8_append_49 : decode cX8_append 49 = .ok (.return_, 1) := by decide +kernel
theorem dX8_ask_0 : decode cX8_ask 0 = .ok (.aload_n 0, 1) := by decide +kernel
theorem dX8_ask_1 : decode cX8_ask 1 = .ok (.iload_n 1, 1) := by decide +kernel
theorem dX8_ask_2 : decode cX8_ask 2 = .ok (.invokevirtual 144, 3) := by decide +kernel
theorem dX8_ask_5 : decode cX8_ask 5 = .ok (.ifCond .eq 23, 3) := by decide +kernel
theorem dX8_ask_8 : decode cX8_ask 8 = .ok (.aload_n 0, 1) := by decide +kernel
theorem dX8_ask_9 : decode cX8_ask 9 = .ok (.iload_n 2, 1) := by decide +kernel
theorem dX8_ask_10 : decode cX8_ask 10 = .ok (.iload_n 3, 1) := by decide +kernel
theorem dX8_ask_11 : decode cX8_ask 11 = .ok (.invokevirtual 275, 3) := by decide +kernel
theorem dX8_ask_14 : decode cX8_ask 14 = .ok (.ifCond .eq 14, 3) := by decide +kernel
theorem dX8_ask_17 : decode cX8_ask 17 = .ok (.aload_n 0, 1) := by decide +kernel
theorem dX8_ask_18 : decode cX8_ask 18 = .ok (.iload 4, 2) := by decide +kernel
theorem dX8_ask_20 : decode cX8_ask 20 = .ok (.iload 5, 2) := by decide +kernel
theorem dX8_ask_22 : decode cX8_ask 22 = .ok (.invokevirtual 275, 3) := by decide +kernel
theorem dX8_ask_25 : decode cX8_ask 25 = .ok (.ifCond .ne 5, 3) := by decide +kernel
theorem dX8_ask_28 : decode cX8_ask 28 = .ok (.iconst 0, 1) := by decide +kernel
theorem dX8_ask_29 : decode cX8_ask 29 = .ok (.ireturn, 1) := by decide +kernel
theorem dX8_ask_30 : decode cX8_ask 30 = .ok (.aload_n 0, 1) := by decide +kernel
theorem dX8_ask_31 : decode cX8_ask 31 = .ok (.getfield 52, 3) := by decide +kernel
theorem dX8_ask_34 : decode cX8_ask 34 = .ok (.iconst 0, 1) := by decide +kernel
theorem dX8_ask_35 : decode cX8_ask 35 = .ok (.iload_n 1, 1) := by decide +kernel
theorem dX8_ask_36 : decode cX8_ask 36 = .ok (.iastore, 1) := by decide +kernel
theorem dX8_ask_37 : decode cX8_ask 37 = .ok (.aload_n 0, 1) := by decide +kernel
theorem dX8_ask_38 : decode cX8_ask 38 = .ok (.getfield 52, 3) := by decide +kernel
theorem dX8_ask_41 : decode cX8_ask 41 = .ok (.iconst 1, 1) := by decide +kernel
theorem dX8_ask_42 : decode cX8_ask 42 = .ok (.iload_n 2, 1) := by decide +kernel
theorem dX8_ask_43 : decode cX8_ask 43 = .ok (.iastore, 1) := by decide +kernel
theorem dX8_ask_44 : decode cX8_ask 44 = .ok (.aload_n 0, 1) := by decide +kernel
theorem dX8_ask_45 : decode cX8_ask 45 = .ok (.getfield 52, 3) := by decide +kernel
theorem dX8_ask_48 : decode cX8_ask 48 = .ok (.iconst 2, 1) := by decide +kernel
theorem dX8_ask_49 : decode cX8_ask 49 = .ok (.iload_n 3, 1) := by decide +kernel
theorem dX8_ask_50 : decode cX8_ask 50 = .ok (.iastore, 1) := by decide +kernel
theorem dX8_ask_51 : decode cX8_ask 51 = .ok (.aload_n 0, 1) := by decide +kernel
theorem dX8_ask_52 : decode cX8_ask 52 = .ok (.getfield 52, 3) := by decide +kernel
theorem dX8_ask_55 : decode cX8_ask 55 = .ok (.iconst 3, 1) := by decide +kernel
theorem dX8_ask_56 : decode cX8_ask 56 = .ok (.iload 4, 2) := by decide +kernel
theorem dX8_ask_58 : decode cX8_ask 58 = .ok (.iastore, 1) := by decide +kernel
theorem dX8_ask_59 : decode cX8_ask 59 = .ok (.aload_n 0, 1) := by decide +kernel
theorem dX8_ask_60 : decode cX8_ask 60 = .ok (.getfield 52, 3) := by decide +kernel
theorem dX8_ask_63 : decode cX8_ask 63 = .ok (.iconst 4, 1) := by decide +kernel
theorem dX8_ask_64 : decode cX8_ask 64 = .ok (.iload 5, 2) := by decide +kernel
theorem dX8_ask_66 : decode cX8_ask 66 = .ok (.iastore, 1) := by decide +kernel
theorem dX8_ask_67 : decode cX8_ask 67 = .ok (.aload_n 0, 1) := by decide +kernel
theorem dX8_ask_68 : decode cX8_ask 68 = .ok (.getfield 37, 3) := by decide +kernel
theorem dX8_ask_71 : decode cX8_ask 71 = .ok (.aload_n 0, 1) := by decide +kernel
theorem dX8_ask_72 : decode cX8_ask 72 = .ok (.getfield 16, 3) := by decide +kernel
theorem dX8_ask_75 : decode cX8_ask 75 = .ok (.aload_n 0, 1) := by decide +kernel
theorem dX8_ask_76 : decode cX8_ask 76 = .ok (.getfield 52, 3) := by decide +kernel
theorem dX8_ask_79 : decode cX8_ask 79 = .ok (.aload_n 0, 1) := by decide +kernel
theorem dX8_ask_80 : decode cX8_ask 80 = .ok (.getfield 48, 3) := by decide +kernel
theorem dX8_ask_83 : decode cX8_ask 83 = .ok (.invokevirtual 302, 3) := by decide +kernel
theorem dX8_ask_86 : decode cX8_ask 86 = .ok (.iconst 1, 1) := by decide +kernel
theorem dX8_ask_87 : decode cX8_ask 87 = .ok (.ireturn, 1) := by decide +kernel
theorem dX8_back_0 : decode cX8_back 0 = .ok (.iload_n 1, 1) := by decide +kernel
theorem dX8_back_1 : decode cX8_back 1 = .ok (.aload_n 0, 1) := by decide +kernel
theorem dX8_back_2 : decode cX8_back 2 = .ok (.getfield 247, 3) := by decide +kernel
theorem dX8_back_5 : decode cX8_back 5 = .ok (.invokestatic 133, 3) := by decide +kernel
theorem dX8_back_8 : decode cX8_back 8 = .ok (.ifCond .ne 9, 3) := by decide +kernel
theorem dX8_back_11 : decode cX8_back 11 = .ok (.aload_n 0, 1) := by decide +kernel
theorem dX8_back_12 : decode cX8_back 12 = .ok (.iconst 1, 1) := by decide +kernel
theorem dX8_back_13 : decode cX8_back 13 = .ok (.invokevirtual 216, 3) := by decide +kernel
theorem dX8_back_16 : decode cX8_back 16 = .ok (.ireturn, 1) := by decide +kernel
theorem dX8_back_17 : decode cX8_back 17 = .ok (.aload_n 0, 1) := by decide +kernel
theorem dX8_back_18 : decode cX8_back 18 = .ok (.getfield 60, 3) := by decide +kernel
theorem dX8_back_21 : decode cX8_back 21 = .ok (.aload_n 0, 1) := by decide +kernel
theorem dX8_back_22 : decode cX8_back 22 = .ok (.getfield 64, 3) := by decide +kernel
theorem dX8_back_25 : decode cX8_back 25 = .ok (.iload_n 1, 1) := by decide +kernel
theorem dX8_back_26 : decode cX8_back 26 = .ok (.aaload, 1) := by decide +kernel
theorem dX8_back_27 : decode cX8_back 27 = .ok (.invokevirtual 250, 3) := by decide +kernel
theorem dX8_back_30 : decode cX8_back 30 = .ok (.aload_n 0, 1) := by decide +kernel
theorem dX8_back_31 : decode cX8_back 31 = .ok (.invokevirtual 222, 3) := by decide +kernel
theorem dX8_back_34 : decode cX8_back 34 = .ok (.ireturn, 1) := by decide +kernel
theorem dX8_bars_0 : decode cX8_bars 0 = .ok (.aload_n 0, 1) := by decide +kernel
theorem dX8_bars_1 : decode cX8_bars 1 = .ok (.iload_n 1, 1) := by decide +kernel
theorem dX8_bars_2 : decode cX8_bars 2 = .ok (.invokevirtual 144, 3) := by decide +kernel
theorem dX8_bars_5 : decode cX8_bars 5 = .ok (.ifCond .eq 11, 3) := by decide +kernel
theorem dX8_bars_8 : decode cX8_bars 8 = .ok (.aload_n 0, 1) := by decide +kernel
theorem dX8_bars_9 : decode cX8_bars 9 = .ok (.iload_n 2, 1) := by decide +kernel
theorem dX8_bars_10 : decode cX8_bars 10 = .ok (.invokevirtual 129, 3) := by decide +kernel
theorem dX8_bars_13 : decode cX8_bars 13 = .ok (.ifCond .ne 9, 3) := by decide +kernel
theorem dX8_bars_16 : decode cX8_bars 16 = .ok (.aload_n 0, 1) := by decide +kernel
theorem dX8_bars_17 : decode cX8_bars 17 = .ok (.iconst 1, 1) := by decide +kernel
theorem dX8_bars_18 : decode cX8_bars 18 = .ok (.invokevirtual 97, 3) := by decide +kernel
theorem dX8_bars_21 : decode cX8_bars 21 = .ok (.ireturn, 1) := by decide +kernel
theorem dX8_bars_22 : decode cX8_bars 22 = .ok (.iload_n 3, 1) := by decide +kernel
theorem dX8_bars_23 : decode cX8_bars 23 = .ok (.ifCond .eq 20, 3) := by decide +kernel
theorem dX8_bars_26 : decode cX8_bars 26 = .ok (.aload_n 0, 1) := by decide +kernel
theorem dX8_bars_27 : decode cX8_bars 27 = .ok (.getfield 16, 3) := by decide +kernel
theorem dX8_bars_30 : decode cX8_bars 30 = .ok (.iload_n 1, 1) := by decide +kernel
theorem dX8_bars_31 : decode cX8_bars 31 = .ok (.invokevirtual 162, 3) := by decide +kernel
theorem dX8_bars_34 : decode cX8_bars 34 = .ok (.ifCond .ne 9, 3) := by decide +kernel
theorem dX8_bars_37 : decode cX8_bars 37 = .ok (.aload_n 0, 1) := by decide +kernel
theorem dX8_bars_38 : decode cX8_bars 38 = .ok (.iconst 5, 1) := by decide +kernel
theorem dX8_bars_39 : decode cX8_bars 39 = .ok (.invokevirtual 97, 3) := by decide +kernel
theorem dX8_bars_42 : decode cX8_bars 42 = .ok (.ireturn, 1) := by decide +kernel
theorem dX8_bars_43 : decode cX8_bars 43 = .ok (.aload_n 0, 1) := by decide +kernel
theorem dX8_bars_44 : decode cX8_bars 44 = .ok (.aload_n 0, 1) := by decide +kernel
theorem dX8_bars_45 : decode cX8_bars 45 = .ok (.getfield 16, 3) := by decide +kernel
theorem dX8_bars_48 : decode cX8_bars 48 = .ok (.aload_n 0, 1) := by decide +kernel
theorem dX8_bars_49 : decode cX8_bars 49 = .ok (.getfield 16, 3) := by decide +kernel
theorem dX8_bars_52 : decode cX8_bars 52 = .ok (.iload_n 1, 1) := by decide +kernel
theorem dX8_bars_53 : decode cX8_bars 53 = .ok (.iload_n 3, 1) := by decide +kernel
theorem dX8_bars_54 : decode cX8_bars 54 = .ok (.invokevirtual 165, 3) := by decide +kernel
theorem dX8_bars_57 : decode cX8_bars 57 = .ok (.iload_n 2, 1) := by decide +kernel
theorem dX8_bars_58 : decode cX8_bars 58 = .ok (.invokevirtual 169, 3) := by decide +kernel
theorem dX8_bars_61 : decode cX8_bars 61 = .ok (.invokevirtual 123, 3) := by decide +kernel
theorem dX8_bars_64 : decode cX8_bars 64 = .ok (.ireturn, 1) := by decide +kernel
theorem dX8_breach_0 : decode cX8_breach 0 = .ok (.aload_n 0, 1) := by decide +kernel
theorem dX8_breach_1 : decode cX8_breach 1 = .ok (.invokevirtual 202, 3) := by decide +kernel
theorem dX8_breach_4 : decode cX8_breach 4 = .ok (.ifCond .ne 9, 3) := by decide +kernel
theorem dX8_breach_7 : decode cX8_breach 7 = .ok (.aload_n 0, 1) := by decide +kernel
theorem dX8_breach_8 : decode cX8_breach 8 = .ok (.iconst 1, 1) := by decide +kernel
theorem dX8_breach_9 : decode cX8_breach 9 = .ok (.invokevirtual 97, 3) := by decide +kernel
theorem dX8_breach_12 : decode cX8_breach 12 = .ok (.ireturn, 1) := by decide +kernel
theorem dX8_breach_13 : decode cX8_breach 13 = .ok (.iload_n 1, 1) := by decide +kernel
theorem dX8_breach_14 : decode cX8_breach 14 = .ok (.invokestatic 254, 3) := by decide +kernel
theorem dX8_breach_17 : decode cX8_breach 17 = .ok (.ifCond .eq 10, 3) := by decide +kernel
theorem dX8_breach_20 : decode cX8_breach 20 = .ok (.iload_n 2, 1) := by decide +kernel
theorem dX8_breach_21 : decode cX8_breach 21 = .ok (.invokestatic 254, 3) := by decide +kernel
theorem dX8_breach_24 : decode cX8_breach 24 = .ok (.ifCond .ne 9, 3) := by decide +kernel
theorem dX8_breach_27 : decode cX8_breach 27 = .ok (.aload_n 0, 1) := by decide +kernel
theorem dX8_breach_28 : decode cX8_breach 28 = .ok (.iconst 2, 1) := by decide +kernel
theorem dX8_breach_29 : decode cX8_breach 29 = .ok (.invokevirtual 97, 3) := by decide +kernel
theorem dX8_breach_32 : decode cX8_breach 32 = .ok (.ireturn, 1) := by decide +kernel
theorem dX8_breach_33 : decode cX8_breach 33 = .ok (.aload_n 0, 1) := by decide +kernel
theorem dX8_breach_34 : decode cX8_breach 34 = .ok (.getfield 16, 3) := by decide +kernel
theorem dX8_breach_37 : decode cX8_breach 37 = .ok (.getfield 261, 3) := by decide +kernel
theorem dX8_breach_40 : decode cX8_breach 40 = .ok (.ifCond .ne 10, 3) := by decide +kernel
theorem dX8_breach_43 : decode cX8_breach 43 = .ok (.aload_n 0, 1) := by decide +kernel
theorem dX8_breach_44 : decode cX8_breach 44 = .ok (.bipush 6, 2) := by decide +kernel
theorem dX8_breach_46 : decode cX8_breach 46 = .ok (.invokevirtual 97, 3) := by decide +kernel
theorem dX8_breach_49 : decode cX8_breach 49 = .ok (.ireturn, 1) := by decide +kernel
theorem dX8_breach_50 : decode cX8_breach 50 = .ok (.iconst 0, 1) := by decide +kernel
theorem dX8_breach_51 : decode cX8_breach 51 = .ok (.istore_n 3, 1) := by decide +kernel
theorem dX8_breach_52 : decode cX8_breach 52 = .ok (.aload_n 0, 1) := by decide +kernel
theorem dX8_breach_53 : decode cX8_breach 53 = .ok (.iconst 0, 1) := by decide +kernel
theorem dX8_breach_54 : decode cX8_breach 54 = .ok (.iload_n 1, 1) := by decide +kernel
theorem dX8_breach_55 : decode cX8_breach 55 = .ok (.iload_n 2, 1) := by decide +kernel
theorem dX8_breach_56 : decode cX8_breach 56 = .ok (.invokevirtual 257, 3) := by decide +kernel
theorem dX8_breach_59 : decode cX8_breach 59 = .ok (.istore 4, 2) := by decide +kernel
theorem dX8_breach_61 : decode cX8_breach 61 = .ok (.iconst 1, 1) := by decide +kernel
theorem dX8_breach_62 : decode cX8_breach 62 = .ok (.istore 5, 2) := by decide +kernel
theorem dX8_breach_64 : decode cX8_breach 64 = .ok (.iload 5, 2) := by decide +kernel
theorem dX8_breach_66 : decode cX8_breach 66 = .ok (.aload_n 0, 1) := by decide +kernel
theorem dX8_breach_67 : decode cX8_breach 67 = .ok (.getfield 16, 3) := by decide +kernel
theorem dX8_breach_70 : decode cX8_breach 70 = .ok (.getfield 261, 3) := by decide +kernel
theorem dX8_breach_73 : decode cX8_breach 73 = .ok (.if_icmp .ge 33, 3) := by decide +kernel
theorem dX8_breach_76 : decode cX8_breach 76 = .ok (.aload_n 0, 1) := by decide +kernel
theorem dX8_breach_77 : decode cX8_breach 77 = .ok (.iload 5, 2) := by decide +kernel
theorem dX8_breach_79 : decode cX8_breach 79 = .ok (.iload_n 1, 1) := by decide +kernel
theorem dX8_breach_80 : decode cX8_breach 80 = .ok (.iload_n 2, 1) := by decide +kernel
theorem dX8_breach_81 : decode cX8_breach 81 = .ok (.invokevirtual 257, 3) := by decide +kernel
theorem dX8_breach_84 : decode cX8_breach 84 = .ok (.istore 6, 2) := by decide +kernel
theorem dX8_breach_86 : decode cX8_breach 86 = .ok (.iload 6, 2) := by decide +kernel
theorem dX8_breach_88 : decode cX8_breach 88 = .ok (.iload 4, 2) := by decide +kernel
theorem dX8_breach_90 : decode cX8_breach 90 = .ok (.if_icmp .le 10, 3) := by decide +kernel
theorem dX8_breach_93 : decode cX8_breach 93 = .ok (.iload 6, 2) := by decide +kernel
theorem dX8_breach_95 : decode cX8_breach 95 = .ok (.istore 4, 2) := by decide +kernel
theorem dX8_breach_97 : decode cX8_breach 97 = .ok (.iload 5, 2) := by decide +kernel
theorem dX8_breach_99 : decode cX8_breach 99 = .ok (.istore_n 3, 1) := by decide +kernel
theorem dX8_breach_100 : decode cX8_breach 100 = .ok (.iinc 5 1, 3) := by decide +kernel
theorem dX8_breach_103 : decode cX8_breach 103 = .ok (.goto (-39), 3) := by decide +kernel
theorem dX8_breach_106 : decode cX8_breach 106 = .ok (.aload_n 0, 1) := by decide +kernel
theorem dX8_breach_107 : decode cX8_breach 107 = .ok (.iload_n 3, 1) := by decide +kernel
theorem dX8_breach_108 : decode cX8_breach 108 = .ok (.invokevirtual 123, 3) := by decide +kernel
theorem dX8_breach_111 : decode cX8_breach 111 = .ok (.ireturn, 1) := by decide +kernel
theorem dX8_busy_0 : decode cX8_busy 0 = .ok (.aload_n 0, 1) := by decide +kernel
theorem dX8_busy_1 : decode cX8_busy 1 = .ok (.iload_n 1, 1) := by decide +kernel
theorem dX8_busy_2 : decode cX8_busy 2 = .ok (.invokevirtual 129, 3) := by decide +kernel
theorem dX8_busy_5 : decode cX8_busy 5 = .ok (.ifCond .ne 9, 3) := by decide +kernel
theorem dX8_busy_8 : decode cX8_busy 8 = .ok (.aload_n 0, 1) := by decide +kernel
theorem dX8_busy_9 : decode cX8_busy 9 = .ok (.iconst 1, 1) := by decide +kernel
theorem dX8_busy_10 : decode cX8_busy 10 = .ok (.invokevirtual 97, 3) := by decide +kernel
theorem dX8_busy_13 : decode cX8_busy 13 = .ok (.ireturn, 1) := by decide +kernel
theorem dX8_busy_14 : decode cX8_busy 14 = .ok (.aload_n 0, 1) := by decide +kernel
theorem dX8_busy_15 : decode cX8_busy 15 = .ok (.aload_n 0, 1) := by decide +kernel
theorem dX8_busy_16 : decode cX8_busy 16 = .ok (.getfield 60, 3) := by decide +kernel
theorem dX8_busy_19 : decode cX8_busy 19 = .ok (.getfield 235, 3) := by decide +kernel
theorem dX8_busy_22 : decode cX8_busy 22 = .ok (.iload_n 1, 1) := by decide +kernel
theorem dX8_busy_23 : decode cX8_busy 23 = .ok (.iaload, 1) := by decide +kernel
theorem dX8_busy_24 : decode cX8_busy 24 = .ok (.invokevirtual 123, 3) := by decide +kernel
theorem dX8_busy_27 : decode cX8_busy 27 = .ok (.ireturn, 1) := by decide +kernel
theorem dX8_cart_0 : decode cX8_cart 0 = .ok (.iload_n 1, 1) := by decide +kernel
theorem dX8_cart_1 : decode cX8_cart 1 = .ok (.aload_n 0, 1) := by decide +kernel
theorem dX8_cart_2 : decode cX8_cart 2 = .ok (.getfield 16, 3) := by decide +kernel
theorem dX8_cart_5 : decode cX8_cart 5 = .ok (.getfield 229, 3) := by decide +kernel
theorem dX8_cart_8 : decode cX8_cart 8 = .ok (.invokestatic 133, 3) := by decide +kernel
theorem dX8_cart_11 : decode cX8_cart 11 = .ok (.ifCond .ne 9, 3) := by decide +kernel
theorem dX8_cart_14 : decode cX8_cart 14 = .ok (.aload_n 0, 1) := by decide +kernel
theorem dX8_cart_15 : decode cX8_cart 15 = .ok (.iconst 1, 1) := by decide +kernel
theorem dX8_cart_16 : decode cX8_cart 16 = .ok (.invokevirtual 97, 3) := by decide +kernel
theorem dX8_cart_19 : decode cX8_cart 19 = .ok (.ireturn, 1) := by decide +kernel
theorem dX8_cart_20 : decode cX8_cart 20 = .ok (.aload_n 0, 1) := by decide +kernel
theorem dX8_cart_21 : decode cX8_cart 21 = .ok (.aload_n 0, 1) := by decide +kernel
theorem dX8_cart_22 : decode cX8_cart 22 = .ok (.getfield 60, 3) := by decide +kernel
theorem dX8_cart_25 : decode cX8_cart 25 = .ok (.getfield 232, 3) := by decide +kernel
theorem dX8_cart_28 : decode cX8_cart 28 = .ok (.iload_n 1, 1) := by decide +kernel
theorem dX8_cart_29 : decode cX8_cart 29 = .ok (.iaload, 1) := by decide +kernel
theorem dX8_cart_30 : decode cX8_cart 30 = .ok (.invokevirtual 123, 3) := by decide +kernel
theorem dX8_cart_33 : decode cX8_cart 33 = .ok (.ireturn, 1) := by decide +kernel
theorem dX8_city_0 : decode cX8_city 0 = .ok (.iload_n 1, 1) := by decide +kernel
theorem dX8_city_1 : decode cX8_city 1 = .ok (.ifCond .lt 11, 3) := by decide +kernel
theorem dX8_city_4 : decode cX8_city 4 = .ok (.iload_n 1, 1) := by decide +kernel
theorem dX8_city_5 : decode cX8_city 5 = .ok (.aload_n 0, 1) := by decide +kernel
theorem dX8_city_6 : decode cX8_city 6 = .ok (.getfield 89, 3) := by decide +kernel
theorem dX8_city_9 : decode cX8_city 9 = .ok (.if_icmp .le 9, 3) := by decide +kernel
theorem dX8_city_12 : decode cX8_city 12 = .ok (.aload_n 0, 1) := by decide +kernel
theorem dX8_city_13 : decode cX8_city 13 = .ok (.iconst 2, 1) := by decide +kernel
theorem dX8_city_14 : decode cX8_city 14 = .ok (.invokevirtual 97, 3) := by decide +kernel
theorem dX8_city_17 : decode cX8_city 17 = .ok (.ireturn, 1) := by decide +kernel
theorem dX8_city_18 : decode cX8_city 18 = .ok (.aload_n 0, 1) := by decide +kernel
theorem dX8_city_19 : decode cX8_city 19 = .ok (.iconst 0, 1) := by decide +kernel
theorem dX8_city_20 : decode cX8_city 20 = .ok (.putfield 89, 3) := by decide +kernel
theorem dX8_city_23 : decode cX8_city 23 = .ok (.aload_n 0, 1) := by decide +kernel
theorem dX8_city_24 : decode cX8_city 24 = .ok (.aload_n 0, 1) := by decide +kernel
theorem dX8_city_25 : decode cX8_city 25 = .ok (.getfield 28, 3) := by decide +kernel
theorem dX8_city_28 : decode cX8_city 28 = .ok (.aload_n 0, 1) := by decide +kernel
theorem dX8_city_29 : decode cX8_city 29 = .ok (.getfield 20, 3) := by decide +kernel
theorem dX8_city_32 : decode cX8_city 32 = .ok (.iload_n 1, 1) := by decide +kernel
theorem dX8_city_33 : decode cX8_city 33 = .ok (.invokevirtual 101, 3) := by decide +kernel
theorem dX8_city_36 : decode cX8_city 36 = .ok (.putfield 105, 3) := by decide +kernel
theorem dX8_city_39 : decode cX8_city 39 = .ok (.aload_n 0, 1) := by decide +kernel
theorem dX8_city_40 : decode cX8_city 40 = .ok (.getfield 105, 3) := by decide +kernel
theorem dX8_city_43 : decode cX8_city 43 = .ok (.ifCond .eq 20, 3) := by decide +kernel
theorem dX8_city_46 : decode cX8_city 46 = .ok (.aload_n 0, 1) := by decide +kernel
theorem dX8_city_47 : decode cX8_city 47 = .ok (.aload_n 0, 1) := by decide +kernel
theorem dX8_city_48 : decode cX8_city 48 = .ok (.getfield 28, 3) := by decide +kernel
theorem dX8_city_51 : decode cX8_city 51 = .ok (.getfield 108, 3) := by decide +kernel
theorem dX8_city_54 : decode cX8_city 54 = .ok (.putfield 111, 3) := by decide +kernel
theorem dX8_city_57 : decode cX8_city 57 = .ok (.aload_n 0, 1) := by decide +kernel
theorem dX8_city_58 : decode cX8_city 58 = .ok (.iconst 4, 1) := by decide +kernel
theorem dX8_city_59 : decode cX8_city 59 = .ok (.invokevirtual 97, 3) := by decide +kernel
theorem dX8_city_62 : decode cX8_city 62 = .ok (.ireturn, 1) := by decide +kernel
theorem dX8_city_63 : decode cX8_city 63 = .ok (.aload_n 0, 1) := by decide +kernel
theorem dX8_city_64 : decode cX8_city 64 = .ok (.getfield 16, 3) := by decide +kernel
theorem dX8_city_67 : decode cX8_city 67 = .ok (.astore_n 2, 1) := by decide +kernel
theorem dX8_city_68 : decode cX8_city 68 = .ok (.aload_n 0, 1) := by decide +kernel
theorem dX8_city_69 : decode cX8_city 69 = .ok (.aload_n 0, 1) := by decide +kernel
theorem dX8_city_70 : decode cX8_city 70 = .ok (.getfield 20, 3) := by decide +kernel
theorem dX8_city_73 : decode cX8_city 73 = .ok (.putfield 16, 3) := by decide +kernel
theorem dX8_city_76 : decode cX8_city 76 = .ok (.aload_n 0, 1) := by decide +kernel
theorem dX8_city_77 : decode cX8_city 77 = .ok (.aload_n 2, 1) := by decide +kernel
theorem dX8_city_78 : decode cX8_city 78 = .ok (.putfield 20, 3) := by decide +kernel
theorem dX8_city_81 : decode cX8_city 81 = .ok (.aload_n 0, 1) := by decide +kernel
theorem dX8_city_82 : decode cX8_city 82 = .ok (.getfield 71, 3) := by decide +kernel
theorem dX8_city_85 : decode cX8_city 85 = .ok (.iconst 0, 1) := by decide +kernel
theorem dX8_city_86 : decode cX8_city 86 = .ok (.putfield 114, 3) := by decide +kernel
theorem dX8_city_89 : decode cX8_city 89 = .ok (.aload_n 0, 1) := by decide +kernel
theorem dX8_city_90 : decode cX8_city 90 = .ok (.invokevirtual 117, 3) := by decide +kernel
theorem dX8_city_93 : decode cX8_city 93 = .ok (.aload_n 0, 1) := by decide +kernel
theorem dX8_city_94 : decode cX8_city 94 = .ok (.aload_n 0, 1) := by decide +kernel
theorem dX8_city_95 : decode cX8_city 95 = .ok (.getfield 16, 3) := by decide +kernel
theorem dX8_city_98 : decode cX8_city 98 = .ok (.getfield 120, 3) := by decide +kernel
theorem dX8_city_101 : decode cX8_city 101 = .ok (.invokevirtual 123, 3) := by decide +kernel
theorem dX8_city_104 : decode cX8_city 104 = .ok (.ireturn, 1) := by decide +kernel
theorem dX8_close_0 : decode cX8_close 0 = .ok (.aload_n 0, 1) := by decide +kernel
theorem dX8_close_1 : decode cX8_close 1 = .ok (.iload_n 1, 1) := by decide +kernel
theorem dX8_close_2 : decode cX8_close 2 = .ok (.invokevirtual 129, 3) := by decide +kernel
theorem dX8_close_5 : decode cX8_close 5 = .ok (.ifCond .ne 9, 3) := by decide +kernel
theorem dX8_close_8 : decode cX8_close 8 = .ok (.aload_n 0, 1) := by decide +kernel
theorem dX8_close_9 : decode cX8_close 9 = .ok (.iconst 1, 1) := by decide +kernel
theorem dX8_close_10 : decode cX8_close 10 = .ok (.invokevirtual 216, 3) := by decide +kernel
theorem dX8_close_13 : decode cX8_close 13 = .ok (.ireturn, 1) := by decide +kernel
theorem dX8_close_14 : decode cX8_close 14 = .ok (.aload_n 0, 1) := by decide +kernel
theorem dX8_close_15 : decode cX8_close 15 = .ok (.getfield 16, 3) := by decide +kernel
theorem dX8_close_18 : decode cX8_close 18 = .ok (.getfield 137, 3) := by decide +kernel
theorem dX8_close_21 : decode cX8_close 21 = .ok (.iload_n 1, 1) := by decide +kernel
theorem dX8_close_22 : decode cX8_close 22 = .ok (.aaload, 1) := by decide +kernel
theorem dX8_close_23 : decode cX8_close 23 = .ok (.bipush 6, 2) := by decide +kernel
theorem dX8_close_25 : decode cX8_close 25 = .ok (.iaload, 1) := by decide +kernel
theorem dX8_close_26 : decode cX8_close 26 = .ok (.ifCond .eq 9, 3) := by decide +kernel
theorem dX8_close_29 : decode cX8_close 29 = .ok (.aload_n 0, 1) := by decide +kernel
theorem dX8_close_30 : decode cX8_close 30 = .ok (.iconst 5, 1) := by decide +kernel
theorem dX8_close_31 : decode cX8_close 31 = .ok (.invokevirtual 216, 3) := by decide +kernel
theorem dX8_close_34 : decode cX8_close 34 = .ok (.ireturn, 1) := by decide +kernel
theorem dX8_close_35 : decode cX8_close 35 = .ok (.aload_n 0, 1) := by decide +kernel
theorem dX8_close_36 : decode cX8_close 36 = .ok (.getfield 71, 3) := by decide +kernel
theorem dX8_close_39 : decode cX8_close 39 = .ok (.aload_n 0, 1) := by decide +kernel
theorem dX8_close_40 : decode cX8_close 40 = .ok (.getfield 16, 3) := by decide +kernel
theorem dX8_close_43 : decode cX8_close 43 = .ok (.iload_n 1, 1) := by decide +kernel
theorem dX8_close_44 : decode cX8_close 44 = .ok (.invokevirtual 282, 3) := by decide +kernel
theorem dX8_close_47 : decode cX8_close 47 = .ok (.aload_n 0, 1) := by decide +kernel
theorem dX8_close_48 : decode cX8_close 48 = .ok (.getfield 16, 3) := by decide +kernel
theorem dX8_close_51 : decode cX8_close 51 = .ok (.getfield 137, 3) := by decide +kernel
theorem dX8_close_54 : decode cX8_close 54 = .ok (.iload_n 1, 1) := by decide +kernel
theorem dX8_close_55 : decode cX8_close 55 = .ok (.aaload, 1) := by decide +kernel
theorem dX8_close_56 : decode cX8_close 56 = .ok (.bipush 6, 2) := by decide +kernel
theorem dX8_close_58 : decode cX8_close 58 = .ok (.iconst 1, 1) := by decide +kernel
theorem dX8_close_59 : decode cX8_close 59 = .ok (.iastore, 1) := by decide +kernel
theorem dX8_close_60 : decode cX8_close 60 = .ok (.aload_n 0, 1) := by decide +kernel
theorem dX8_close_61 : decode cX8_close 61 = .ok (.invokevirtual 117, 3) := by decide +kernel
theorem dX8_close_64 : decode cX8_close 64 = .ok (.aload_n 0, 1) := by decide +kernel
theorem dX8_close_65 : decode cX8_close 65 = .ok (.invokevirtual 222, 3) := by decide +kernel
theorem dX8_close_68 : decode cX8_close 68 = .ok (.ireturn, 1) := by decide +kernel
theorem dX8_deepest_0 : decode cX8_deepest 0 = .ok (.aload_n 0, 1) := by decide +kernel
theorem dX8_deepest_1 : decode cX8_deepest 1 = .ok (.iload_n 1, 1) := by decide +kernel
theorem dX8_deepest_2 : decode cX8_deepest 2 = .ok (.invokevirtual 144, 3) := by decide +kernel
theorem dX8_deepest_5 : decode cX8_deepest 5 = .ok (.ifCond .ne 9, 3) := by decide +kernel
theorem dX8_deepest_8 : decode cX8_deepest 8 = .ok (.aload_n 0, 1) := by decide +kernel
theorem dX8_deepest_9 : decode cX8_deepest 9 = .ok (.iconst 1, 1) := by decide +kernel
theorem dX8_deepest_10 : decode cX8_deepest 10 = .ok (.invokevirtual 97, 3) := by decide +kernel
theorem dX8_deepest_13 : decode cX8_deepest 13 = .ok (.ireturn, 1) := by decide +kernel
theorem dX8_deepest_14 : decode cX8_deepest 14 = .ok (.aload_n 0, 1) := by decide +kernel
theorem dX8_deepest_15 : decode cX8_deepest 15 = .ok (.aload_n 0, 1) := by decide +kernel
theorem dX8_deepest_16 : decode cX8_deepest 16 = .ok (.getfield 16, 3) := by decide +kernel
theorem dX8_deepest_19 : decode cX8_deepest 19 = .ok (.aload_n 0, 1) := by decide +kernel
theorem dX8_deepest_20 : decode cX8_deepest 20 = .ok (.getfield 16, 3) := by decide +kernel
theorem dX8_deepest_23 : decode cX8_deepest 23 = .ok (.iload_n 1, 1) := by decide +kernel
theorem dX8_deepest_24 : decode cX8_deepest 24 = .ok (.iconst 0, 1) := by decide +kernel
theorem dX8_deepest_25 : decode cX8_deepest 25 = .ok (.invokevirtual 165, 3) := by decide +kernel
theorem dX8_deepest_28 : decode cX8_deepest 28 = .ok (.iconst 1, 1) := by decide +kernel
theorem dX8_deepest_29 : decode cX8_deepest 29 = .ok (.invokevirtual 173, 3) := by decide +kernel
theorem dX8_deepest_32 : decode cX8_deepest 32 = .ok (.invokevirtual 123, 3) := by decide +kernel
theorem dX8_deepest_35 : decode cX8_deepest 35 = .ok (.ireturn, 1) := by decide +kernel
theorem dX8_deepestCut_0 : decode cX8_deepestCut 0 = .ok (.aload_n 0, 1) := by decide +kernel
theorem dX8_deepestCut_1 : decode cX8_deepestCut 1 = .ok (.iload_n 1, 1) := by decide +kernel
theorem dX8_deepestCut_2 : decode cX8_deepestCut 2 = .ok (.invokevirtual 144, 3) := by decide +kernel
theorem dX8_deepestCut_5 : decode cX8_deepestCut 5 = .ok (.ifCond .ne 9, 3) := by decide +kernel
theorem dX8_deepestCut_8 : decode cX8_deepestCut 8 = .ok (.aload_n 0, 1) := by decide +kernel
theorem dX8_deepestCut_9 : decode cX8_deepestCut 9 = .ok (.iconst 1, 1) := by decide +kernel
theorem dX8_deepestCut_10 : decode cX8_deepestCut 10 = .ok (.invokevirtual 97, 3) := by decide +kernel
theorem dX8_deepestCut_13 : decode cX8_deepestCut 13 = .ok (.ireturn, 1) := by decide +kernel
theorem dX8_deepestCut_14 : decode cX8_deepestCut 14 = .ok (.aload_n 0, 1) := by decide +kernel
theorem dX8_deepestCut_15 : decode cX8_deepestCut 15 = .ok (.getfield 16, 3) := by decide +kernel
theorem dX8_deepestCut_18 : decode cX8_deepestCut 18 = .ok (.iload_n 1, 1) := by decide +kernel
theorem dX8_deepestCut_19 : decode cX8_deepestCut 19 = .ok (.invokevirtual 162, 3) := by decide +kernel
theorem dX8_deepestCut_22 : decode cX8_deepestCut 22 = .ok (.ifCond .ne 9, 3) := by decide +kernel
theorem dX8_deepestCut_25 : decode cX8_deepestCut 25 = .ok (.aload_n 0, 1) := by decide +kernel
theorem dX8_deepestCut_26 : decode cX8_deepestCut 26 = .ok (.iconst 5, 1) := by decide +kernel
theorem dX8_deepestCut_27 : decode cX8_deepestCut 27 = .ok (.invokevirtual 97, 3) := by decide +kernel
theorem dX8_deepestCut_30 : decode cX8_deepestCut 30 = .ok (.ireturn, 1) := by decide +kernel
theorem dX8_deepestCut_31 : decode cX8_deepestCut 31 = .ok (.aload_n 0, 1) := by decide +kernel
theorem dX8_deepestCut_32 : decode cX8_deepestCut 32 = .ok (.aload_n 0, 1) := by decide +kernel
theorem dX8_deepestCut_33 : decode cX8_deepestCut 33 = .ok (.getfield 16, 3) := by decide +kernel
theorem dX8_deepestCut_36 : decode cX8_deepestCut 36 = .ok (.aload_n 0, 1) := by decide +kernel
theorem dX8_deepestCut_37 : decode cX8_deepestCut 37 = .ok (.getfield 16, 3) := by decide +kernel
theorem dX8_deepestCut_40 : decode cX8_deepestCut 40 = .ok (.iload_n 1, 1) := by decide +kernel
theorem dX8_deepestCut_41 : decode cX8_deepestCut 41 = .ok (.iconst 1, 1) := by decide +kernel
theorem dX8_deepestCut_42 : decode cX8_deepestCut 42 = .ok (.invokevirtual 165, 3) := by decide +kernel
theorem dX8_deepestCut_45 : decode cX8_deepestCut 45 = .ok (.iconst 1, 1) := by decide +kernel
theorem dX8_deepestCut_46 : decode cX8_deepestCut 46 = .ok (.invokevirtual 173, 3) := by decide +kernel
theorem dX8_deepestCut_49 : decode cX8_deepestCut 49 = .ok (.invokevirtual 123, 3) := by decide +kernel
theorem dX8_deepestCut_52 : decode cX8_deepestCut 52 = .ok (.ireturn, 1) := by decide +kernel
theorem dX8_deny_0 : decode cX8_deny 0 = .ok (.aload_n 0, 1) := by decide +kernel
theorem dX8_deny_1 : decode cX8_deny 1 = .ok (.iload_n 1, 1) := by decide +kernel
theorem dX8_deny_2 : decode cX8_deny 2 = .ok (.putfield 126, 3) := by decide +kernel
theorem dX8_deny_5 : decode cX8_deny 5 = .ok (.iconst 0, 1) := by decide +kernel
theorem dX8_deny_6 : decode cX8_deny 6 = .ok (.ireturn, 1) := by decide +kernel
theorem dX8_dig_0 : decode cX8_dig 0 = .ok (.aload_n 0, 1) := by decide +kernel
theorem dX8_dig_1 : decode cX8_dig 1 = .ok (.iload_n 1, 1) := by decide +kernel
theorem dX8_dig_2 : decode cX8_dig 2 = .ok (.iload_n 2, 1) := by decide +kernel
theorem dX8_dig_3 : decode cX8_dig 3 = .ok (.invokevirtual 275, 3) := by decide +kernel
theorem dX8_dig_6 : decode cX8_dig 6 = .ok (.ifCond .eq 13, 3) := by decide +kernel
theorem dX8_dig_9 : decode cX8_dig 9 = .ok (.aload_n 0, 1) := by decide +kernel
theorem dX8_dig_10 : decode cX8_dig 10 = .ok (.iload_n 1, 1) := by decide +kernel
theorem dX8_dig_11 : decode cX8_dig 11 = .ok (.iconst 1, 1) := by decide +kernel
theorem dX8_dig_12 : decode cX8_dig 12 = .ok (.iadd, 1) := by decide +kernel
theorem dX8_dig_13 : decode cX8_dig 13 = .ok (.invokevirtual 141, 3) := by decide +kernel
theorem dX8_dig_16 : decode cX8_dig 16 = .ok (.ifCond .ne 9, 3) := by decide +kernel
theorem dX8_dig_19 : decode cX8_dig 19 = .ok (.aload_n 0, 1) := by decide +kernel
theorem dX8_dig_20 : decode cX8_dig 20 = .ok (.iconst 1, 1) := by decide +kernel
theorem dX8_dig_21 : decode cX8_dig 21 = .ok (.invokevirtual 97, 3) := by decide +kernel
theorem dX8_dig_24 : decode cX8_dig 24 = .ok (.ireturn, 1) := by decide +kernel
theorem dX8_dig_25 : decode cX8_dig 25 = .ok (.iload_n 3, 1) := by decide +kernel
theorem dX8_dig_26 : decode cX8_dig 26 = .ok (.invokestatic 254, 3) := by decide +kernel
theorem dX8_dig_29 : decode cX8_dig 29 = .ok (.ifCond .eq 40, 3) := by decide +kernel
theorem dX8_dig_32 : decode cX8_dig 32 = .ok (.iload 4, 2) := by decide +kernel
theorem dX8_dig_34 : decode cX8_dig 34 = .ok (.invokestatic 254, 3) := by decide +kernel
theorem dX8_dig_37 : decode cX8_dig 37 = .ok (.ifCond .eq 32, 3) := by decide +kernel
theorem dX8_dig_40 : decode cX8_dig 40 = .ok (.iload 5, 2) := by decide +kernel
theorem dX8_dig_42 : decode cX8_dig 42 = .ok (.iconst 1, 1) := by decide +kernel
theorem dX8_dig_43 : decode cX8_dig 43 = .ok (.if_icmp .lt 26, 3) := by decide +kernel
theorem dX8_dig_46 : decode cX8_dig 46 = .ok (.iload 5, 2) := by decide +kernel
theorem dX8_dig_48 : decode cX8_dig 48 = .ok (.bipush 9, 2) := by decide +kernel
theorem dX8_dig_50 : decode cX8_dig 50 = .ok (.if_icmp .gt 19, 3) := by decide +kernel
theorem dX8_dig_53 : decode cX8_dig 53 = .ok (.iload 6, 2) := by decide +kernel
theorem dX8_dig_55 : decode cX8_dig 55 = .ok (.ifCond .lt 14, 3) := by decide +kernel
theorem dX8_dig_58 : decode cX8_dig 58 = .ok (.iload 6, 2) := by decide +kernel
theorem dX8_dig_60 : decode cX8_dig 60 = .ok (.bipush 99, 2) := by decide +kernel
theorem dX8_dig_62 : decode cX8_dig 62 = .ok (.if_icmp .gt 7, 3) := by decide +kernel
theorem dX8_dig_65 : decode cX8_dig 65 = .ok (.iconst 1, 1) := by decide +kernel
theorem dX8_dig_66 : decode cX8_dig 66 = .ok (.goto 4, 3) := by decide +kernel
theorem dX8_dig_69 : decode cX8_dig 69 = .ok (.iconst 0, 1) := by decide +kernel
theorem dX8_dig_70 : decode cX8_dig 70 = .ok (.istore 7, 2) := by decide +kernel
theorem dX8_dig_72 : decode cX8_dig 72 = .ok (.iload 7, 2) := by decide +kernel
theorem dX8_dig_74 : decode cX8_dig 74 = .ok (.ifCond .ne 9, 3) := by decide +kernel
theorem dX8_dig_77 : decode cX8_dig 77 = .ok (.aload_n 0, 1) := by decide +kernel
theorem dX8_dig_78 : decode cX8_dig 78 = .ok (.iconst 2, 1) := by decide +kernel
theorem dX8_dig_79 : decode cX8_dig 79 = .ok (.invokevirtual 97, 3) := by decide +kernel
theorem dX8_dig_82 : decode cX8_dig 82 = .ok (.ireturn, 1) := by decide +kernel
theorem dX8_dig_83 : decode cX8_dig 83 = .ok (.aload_n 0, 1) := by decide +kernel
theorem dX8_dig_84 : decode cX8_dig 84 = .ok (.getfield 16, 3) := by decide +kernel
theorem dX8_dig_87 : decode cX8_dig 87 = .ok (.getfield 261, 3) := by decide +kernel
theorem dX8_dig_90 : decode cX8_dig 90 = .ok (.bipush 11, 2) := by decide +kernel
theorem dX8_dig_92 : decode cX8_dig 92 = .ok (.if_icmp .lt 9, 3) := by decide +kernel
theorem dX8_dig_95 : decode cX8_dig 95 = .ok (.aload_n 0, 1) := by decide +kernel
theorem dX8_dig_96 : decode cX8_dig 96 = .ok (.iconst 3, 1) := by decide +kernel
theorem dX8_dig_97 : decode cX8_dig 97 = .ok (.invokevirtual 97, 3) := by decide +kernel
theorem dX8_dig_100 : decode cX8_dig 100 = .ok (.ireturn, 1) := by decide +kernel
theorem dX8_dig_101 : decode cX8_dig 101 = .ok (.aload_n 0, 1) := by decide +kernel
theorem dX8_dig_102 : decode cX8_dig 102 = .ok (.getfield 16, 3) := by decide +kernel
theorem dX8_dig_105 : decode cX8_dig 105 = .ok (.getfield 261, 3) := by decide +kernel
theorem dX8_dig_108 : decode cX8_dig 108 = .ok (.istore 8, 2) := by decide +kernel
theorem dX8_dig_110 : decode cX8_dig 110 = .ok (.aload_n 0, 1) := by decide +kernel
theorem dX8_dig_111 : decode cX8_dig 111 = .ok (.getfield 71, 3) := by decide +kernel
theorem dX8_dig_114 : decode cX8_dig 114 = .ok (.aload_n 0, 1) := by decide +kernel
theorem dX8_dig_115 : decode cX8_dig 115 = .ok (.getfield 16, 3) := by decide +kernel
theorem dX8_dig_118 : decode cX8_dig 118 = .ok (.iload 8, 2) := by decide +kernel
theorem dX8_dig_120 : decode cX8_dig 120 = .ok (.invokevirtual 282, 3) := by decide +kernel
theorem dX8_dig_123 : decode cX8_dig 123 = .ok (.aload_n 0, 1) := by decide +kernel
theorem dX8_dig_124 : decode cX8_dig 124 = .ok (.getfield 16, 3) := by decide +kernel
theorem dX8_dig_127 : decode cX8_dig 127 = .ok (.getfield 137, 3) := by decide +kernel
theorem dX8_dig_130 : decode cX8_dig 130 = .ok (.iload 8, 2) := by decide +kernel
theorem dX8_dig_132 : decode cX8_dig 132 = .ok (.aaload, 1) := by decide +kernel
theorem dX8_dig_133 : decode cX8_dig 133 = .ok (.astore 9, 2) := by decide +kernel
theorem dX8_dig_135 : decode cX8_dig 135 = .ok (.aload 9, 2) := by decide +kernel
theorem dX8_dig_137 : decode cX8_dig 137 = .ok (.iconst 0, 1) := by decide +kernel
theorem dX8_dig_138 : decode cX8_dig 138 = .ok (.iload_n 1, 1) := by decide +kernel
theorem dX8_dig_139 : decode cX8_dig 139 = .ok (.iastore, 1) := by decide +kernel
theorem dX8_dig_140 : decode cX8_dig 140 = .ok (.aload 9, 2) := by decide +kernel
theorem dX8_dig_142 : decode cX8_dig 142 = .ok (.iconst 1, 1) := by decide +kernel
theorem dX8_dig_143 : decode cX8_dig 143 = .ok (.iload_n 2, 1) := by decide +kernel
theorem dX8_dig_144 : decode cX8_dig 144 = .ok (.iastore, 1) := by decide +kernel
theorem dX8_dig_145 : decode cX8_dig 145 = .ok (.aload 9, 2) := by decide +kernel
theorem dX8_dig_147 : decode cX8_dig 147 = .ok (.iconst 2, 1) := by decide +kernel
theorem dX8_dig_148 : decode cX8_dig 148 = .ok (.iload_n 3, 1) := by decide +kernel
theorem dX8_dig_149 : decode cX8_dig 149 = .ok (.iastore, 1) := by decide +kernel
theorem dX8_dig_150 : decode cX8_dig 150 = .ok (.aload 9, 2) := by decide +kernel
theorem dX8_dig_152 : decode cX8_dig 152 = .ok (.iconst 3, 1) := by decide +kernel
theorem dX8_dig_153 : decode cX8_dig 153 = .ok (.iload 4, 2) := by decide +kernel
theorem dX8_dig_155 : decode cX8_dig 155 = .ok (.iastore, 1) := by decide +kernel
theorem dX8_dig_156 : decode cX8_dig 156 = .ok (.aload 9, 2) := by decide +kernel
theorem dX8_dig_158 : decode cX8_dig 158 = .ok (.iconst 4, 1) := by decide +kernel
theorem dX8_dig_159 : decode cX8_dig 159 = .ok (.iload 5, 2) := by decide +kernel
theorem dX8_dig_161 : decode cX8_dig 161 = .ok (.iastore, 1) := by decide +kernel
theorem dX8_dig_162 : decode cX8_dig 162 = .ok (.aload 9, 2) := by decide +kernel
theorem dX8_dig_164 : decode cX8_dig 164 = .ok (.iconst 5, 1) := by decide +kernel
theorem dX8_dig_165 : decode cX8_dig 165 = .ok (.iload 6, 2) := by decide +kernel
theorem dX8_dig_167 : decode cX8_dig 167 = .ok (.iastore, 1) := by decide +kernel
theorem dX8_dig_168 : decode cX8_dig 168 = .ok (.aload 9, 2) := by decide +kernel
theorem dX8_dig_170 : decode cX8_dig 170 = .ok (.bipush 6, 2) := by decide +kernel
theorem dX8_dig_172 : decode cX8_dig 172 = .ok (.iconst 0, 1) := by decide +kernel
theorem dX8_dig_173 : decode cX8_dig 173 = .ok (.iastore, 1) := by decide +kernel
theorem dX8_dig_174 : decode cX8_dig 174 = .ok (.aload_n 0, 1) := by decide +kernel
theorem dX8_dig_175 : decode cX8_dig 175 = .ok (.getfield 16, 3) := by decide +kernel
theorem dX8_dig_178 : decode cX8_dig 178 = .ok (.iload 8, 2) := by decide +kernel
theorem dX8_dig_180 : decode cX8_dig 180 = .ok (.iconst 1, 1) := by decide +kernel
theorem dX8_dig_181 : decode cX8_dig 181 = .ok (.iadd, 1) := by decide +kernel
theorem dX8_dig_182 : decode cX8_dig 182 = .ok (.putfield 261, 3) := by decide +kernel
theorem dX8_dig_185 : decode cX8_dig 185 = .ok (.aload_n 0, 1) := by decide +kernel
theorem dX8_dig_186 : decode cX8_dig 186 = .ok (.invokevirtual 117, 3) := by decide +kernel
theorem dX8_dig_189 : decode cX8_dig 189 = .ok (.aload_n 0, 1) := by decide +kernel
theorem dX8_dig_190 : decode cX8_dig 190 = .ok (.iload 8, 2) := by decide +kernel
theorem dX8_dig_192 : decode cX8_dig 192 = .ok (.invokevirtual 123, 3) := by decide +kernel
theorem dX8_dig_195 : decode cX8_dig 195 = .ok (.ireturn, 1) := by decide +kernel
theorem dX8_enlarge_0 : decode cX8_enlarge 0 = .ok (.aload_n 0, 1) := by decide +kernel
theorem dX8_enlarge_1 : decode cX8_enlarge 1 = .ok (.iconst 2, 1) := by decide +kernel
theorem dX8_enlarge_2 : decode cX8_enlarge 2 = .ok (.aload_n 0, 1) := by decide +kernel
theorem dX8_enlarge_3 : decode cX8_enlarge 3 = .ok (.iconst 2, 1) := by decide +kernel
theorem dX8_enlarge_4 : decode cX8_enlarge 4 = .ok (.iaload, 1) := by decide +kernel
theorem dX8_enlarge_5 : decode cX8_enlarge 5 = .ok (.iload_n 1, 1) := by decide +kernel
theorem dX8_enlarge_6 : decode cX8_enlarge 6 = .ok (.invokestatic 266, 3) := by decide +kernel
theorem dX8_enlarge_9 : decode cX8_enlarge 9 = .ok (.iastore, 1) := by decide +kernel
theorem dX8_enlarge_10 : decode cX8_enlarge 10 = .ok (.aload_n 0, 1) := by decide +kernel
theorem dX8_enlarge_11 : decode cX8_enlarge 11 = .ok (.iconst 3, 1) := by decide +kernel
theorem dX8_enlarge_12 : decode cX8_enlarge 12 = .ok (.aload_n 0, 1) := by decide +kernel
theorem dX8_enlarge_13 : decode cX8_enlarge 13 = .ok (.iconst 3, 1) := by decide +kernel
theorem dX8_enlarge_14 : decode cX8_enlarge 14 = .ok (.iaload, 1) := by decide +kernel
theorem dX8_enlarge_15 : decode cX8_enlarge 15 = .ok (.iload_n 2, 1) := by decide +kernel
theorem dX8_enlarge_16 : decode cX8_enlarge 16 = .ok (.invokestatic 266, 3) := by decide +kernel
theorem dX8_enlarge_19 : decode cX8_enlarge 19 = .ok (.iastore, 1) := by decide +kernel
theorem dX8_enlarge_20 : decode cX8_enlarge 20 = .ok (.return_, 1) := by decide +kernel
theorem dX8_fault_0 : decode cX8_fault 0 = .ok (.aload_n 0, 1) := by decide +kernel
theorem dX8_fault_1 : decode cX8_fault 1 = .ok (.getfield 105, 3) := by decide +kernel
theorem dX8_fault_4 : decode cX8_fault 4 = .ok (.ireturn, 1) := by decide +kernel
theorem dX8_feed_0 : decode cX8_feed 0 = .ok (.aload_n 0, 1) := by decide +kernel
theorem dX8_feed_1 : decode cX8_feed 1 = .ok (.getfield 89, 3) := by decide +kernel
theorem dX8_feed_4 : decode cX8_feed 4 = .ok (.bipush 20, 2) := by decide +kernel
theorem dX8_feed_6 : decode cX8_feed 6 = .ok (.iadd, 1) := by decide +kernel
theorem dX8_feed_7 : decode cX8_feed 7 = .ok (.sipush 900, 3) := by decide +kernel
theorem dX8_feed_10 : decode cX8_feed 10 = .ok (.if_icmp .le 5, 3) := by decide +kernel
theorem dX8_feed_13 : decode cX8_feed 13 = .ok (.iconst (-1), 1) := by decide +kernel
theorem dX8_feed_14 : decode cX8_feed 14 = .ok (.ireturn, 1) := by decide +kernel
theorem dX8_feed_15 : decode cX8_feed 15 = .ok (.aload_n 0, 1) := by decide +kernel
theorem dX8_feed_16 : decode cX8_feed 16 = .ok (.iload_n 1, 1) := by decide +kernel
theorem dX8_feed_17 : decode cX8_feed 17 = .ok (.invokevirtual 93, 3) := by decide +kernel
theorem dX8_feed_20 : decode cX8_feed 20 = .ok (.aload_n 0, 1) := by decide +kernel
theorem dX8_feed_21 : decode cX8_feed 21 = .ok (.iload_n 2, 1) := by decide +kernel
theorem dX8_feed_22 : decode cX8_feed 22 = .ok (.invokevirtual 93, 3) := by decide +kernel
theorem dX8_feed_25 : decode cX8_feed 25 = .ok (.aload_n 0, 1) := by decide +kernel
theorem dX8_feed_26 : decode cX8_feed 26 = .ok (.iload_n 3, 1) := by decide +kernel
theorem dX8_feed_27 : decode cX8_feed 27 = .ok (.invokevirtual 93, 3) := by decide +kernel
theorem dX8_feed_30 : decode cX8_feed 30 = .ok (.aload_n 0, 1) := by decide +kernel
theorem dX8_feed_31 : decode cX8_feed 31 = .ok (.iload 4, 2) := by decide +kernel
theorem dX8_feed_33 : decode cX8_feed 33 = .ok (.invokevirtual 93, 3) := by decide +kernel
theorem dX8_feed_36 : decode cX8_feed 36 = .ok (.aload_n 0, 1) := by decide +kernel
theorem dX8_feed_37 : decode cX8_feed 37 = .ok (.iload 5, 2) := by decide +kernel
theorem dX8_feed_39 : decode cX8_feed 39 = .ok (.invokevirtual 93, 3) := by decide +kernel
theorem dX8_feed_42 : decode cX8_feed 42 = .ok (.aload_n 0, 1) := by decide +kernel
theorem dX8_feed_43 : decode cX8_feed 43 = .ok (.getfield 89, 3) := by decide +kernel
theorem dX8_feed_46 : decode cX8_feed 46 = .ok (.ireturn, 1) := by decide +kernel
theorem dX8_fits_0 : decode cX8_fits 0 = .ok (.iload_n 2, 1) := by decide +kernel
theorem dX8_fits_1 : decode cX8_fits 1 = .ok (.ifCond .eq 11, 3) := by decide +kernel
theorem dX8_fits_4 : decode cX8_fits 4 = .ok (.aload_n 0, 1) := by decide +kernel
theorem dX8_fits_5 : decode cX8_fits 5 = .ok (.iload_n 3, 1) := by decide +kernel
theorem dX8_fits_6 : decode cX8_fits 6 = .ok (.invokevirtual 129, 3) := by decide +kernel
theorem dX8_fits_9 : decode cX8_fits 9 = .ok (.goto 8, 3) := by decide +kernel
theorem dX8_fits_12 : decode cX8_fits 12 = .ok (.aload_n 0, 1) := by decide +kernel
theorem dX8_fits_13 : decode cX8_fits 13 = .ok (.iload_n 3, 1) := by decide +kernel
theorem dX8_fits_14 : decode cX8_fits 14 = .ok (.invokevirtual 141, 3) := by decide +kernel
theorem dX8_fits_17 : decode cX8_fits 17 = .ok (.istore 5, 2) := by decide +kernel
theorem dX8_fits_19 : decode cX8_fits 19 = .ok (.aload_n 0, 1) := by decide +kernel
theorem dX8_fits_20 : decode cX8_fits 20 = .ok (.iload_n 1, 1) := by decide +kernel
theorem dX8_fits_21 : decode cX8_fits 21 = .ok (.invokevirtual 144, 3) := by decide +kernel
theorem dX8_fits_24 : decode cX8_fits 24 = .ok (.ifCond .eq 17, 3) := by decide +kernel
theorem dX8_fits_27 : decode cX8_fits 27 = .ok (.iload 5, 2) := by decide +kernel
theorem dX8_fits_29 : decode cX8_fits 29 = .ok (.ifCond .eq 12, 3) := by decide +kernel
theorem dX8_fits_32 : decode cX8_fits 32 = .ok (.iload 4, 2) := by decide +kernel
theorem dX8_fits_34 : decode cX8_fits 34 = .ok (.iconst 3, 1) := by decide +kernel
theorem dX8_fits_35 : decode cX8_fits 35 = .ok (.invokestatic 133, 3) := by decide +kernel
theorem dX8_fits_38 : decode cX8_fits 38 = .ok (.ifCond .ne 9, 3) := by decide +kernel
theorem dX8_fits_41 : decode cX8_fits 41 = .ok (.aload_n 0, 1) := by decide +kernel
theorem dX8_fits_42 : decode cX8_fits 42 = .ok (.iconst 1, 1) := by decide +kernel
theorem dX8_fits_43 : decode cX8_fits 43 = .ok (.invokevirtual 97, 3) := by decide +kernel
theorem dX8_fits_46 : decode cX8_fits 46 = .ok (.ireturn, 1) := by decide +kernel
theorem dX8_fits_47 : decode cX8_fits 47 = .ok (.aload_n 0, 1) := by decide +kernel
theorem dX8_fits_48 : decode cX8_fits 48 = .ok (.getfield 16, 3) := by decide +kernel
theorem dX8_fits_51 : decode cX8_fits 51 = .ok (.getfield 147, 3) := by decide +kernel
theorem dX8_fits_54 : decode cX8_fits 54 = .ok (.iload_n 1, 1) := by decide +kernel
theorem dX8_fits_55 : decode cX8_fits 55 = .ok (.aaload, 1) := by decide +kernel
theorem dX8_fits_56 : decode cX8_fits 56 = .ok (.astore 6, 2) := by decide +kernel
theorem dX8_fits_58 : decode cX8_fits 58 = .ok (.aload 6, 2) := by decide +kernel
theorem dX8_fits_60 : decode cX8_fits 60 = .ok (.iload 4, 2) := by decide +kernel
theorem dX8_fits_62 : decode cX8_fits 62 = .ok (.invokevirtual 151, 3) := by decide +kernel
theorem dX8_fits_65 : decode cX8_fits 65 = .ok (.ifCond .ne 9, 3) := by decide +kernel
theorem dX8_fits_68 : decode cX8_fits 68 = .ok (.aload_n 0, 1) := by decide +kernel
theorem dX8_fits_69 : decode cX8_fits 69 = .ok (.iconst 5, 1) := by decide +kernel
theorem dX8_fits_70 : decode cX8_fits 70 = .ok (.invokevirtual 97, 3) := by decide +kernel
theorem dX8_fits_73 : decode cX8_fits 73 = .ok (.ireturn, 1) := by decide +kernel
theorem dX8_fits_74 : decode cX8_fits 74 = .ok (.iload_n 2, 1) := by decide +kernel
theorem dX8_fits_75 : decode cX8_fits 75 = .ok (.ifCond .eq 26, 3) := by decide +kernel
theorem dX8_fits_78 : decode cX8_fits 78 = .ok (.aload_n 0, 1) := by decide +kernel
theorem dX8_fits_79 : decode cX8_fits 79 = .ok (.getfield 16, 3) := by decide +kernel
theorem dX8_fits_82 : decode cX8_fits 82 = .ok (.aload 6, 2) := by decide +kernel
theorem dX8_fits_84 : decode cX8_fits 84 = .ok (.iload 4, 2) := by decide +kernel
theorem dX8_fits_86 : decode cX8_fits 86 = .ok (.iload_n 3, 1) := by decide +kernel
theorem dX8_fits_87 : decode cX8_fits 87 = .ok (.invokevirtual 154, 3) := by decide +kernel
theorem dX8_fits_90 : decode cX8_fits 90 = .ok (.ifCond .ne 7, 3) := by decide +kernel
theorem dX8_fits_93 : decode cX8_fits 93 = .ok (.iconst 1, 1) := by decide +kernel
theorem dX8_fits_94 : decode cX8_fits 94 = .ok (.goto 19, 3) := by decide +kernel
theorem dX8_fits_97 : decode cX8_fits 97 = .ok (.iconst 0, 1) := by decide +kernel
theorem dX8_fits_98 : decode cX8_fits 98 = .ok (.goto 15, 3) := by decide +kernel
theorem dX8_fits_101 : decode cX8_fits 101 = .ok (.aload_n 0, 1) := by decide +kernel
theorem dX8_fits_102 : decode cX8_fits 102 = .ok (.getfield 16, 3) := by decide +kernel
theorem dX8_fits_105 : decode cX8_fits 105 = .ok (.aload 6, 2) := by decide +kernel
theorem dX8_fits_107 : decode cX8_fits 107 = .ok (.iload 4, 2) := by decide +kernel
theorem dX8_fits_109 : decode cX8_fits 109 = .ok (.iload_n 3, 1) := by decide +kernel
theorem dX8_fits_110 : decode cX8_fits 110 = .ok (.invokevirtual 158, 3) := by decide +kernel
theorem dX8_fits_113 : decode cX8_fits 113 = .ok (.istore 7, 2) := by decide +kernel
theorem dX8_fits_115 : decode cX8_fits 115 = .ok (.aload_n 0, 1) := by decide +kernel
theorem dX8_fits_116 : decode cX8_fits 116 = .ok (.iload 7, 2) := by decide +kernel
theorem dX8_fits_118 : decode cX8_fits 118 = .ok (.ifCond .eq 7, 3) := by decide +kernel
theorem dX8_fits_121 : decode cX8_fits 121 = .ok (.iconst 1, 1) := by decide +kernel
theorem dX8_fits_122 : decode cX8_fits 122 = .ok (.goto 4, 3) := by decide +kernel
theorem dX8_fits_125 : decode cX8_fits 125 = .ok (.iconst 0, 1) := by decide +kernel
theorem dX8_fits_126 : decode cX8_fits 126 = .ok (.invokevirtual 123, 3) := by decide +kernel
theorem dX8_fits_129 : decode cX8_fits 129 = .ok (.ireturn, 1) := by decide +kernel
theorem dX8_gate_0 : decode cX8_gate 0 = .ok (.aload_n 0, 1) := by decide +kernel
theorem dX8_gate_1 : decode cX8_gate 1 = .ok (.iload_n 1, 1) := by decide +kernel
theorem dX8_gate_2 : decode cX8_gate 2 = .ok (.invokevirtual 129, 3) := by decide +kernel
theorem dX8_gate_5 : decode cX8_gate 5 = .ok (.ifCond .eq 12, 3) := by decide +kernel
theorem dX8_gate_8 : decode cX8_gate 8 = .ok (.iload_n 2, 1) := by decide +kernel
theorem dX8_gate_9 : decode cX8_gate 9 = .ok (.bipush 7, 2) := by decide +kernel
theorem dX8_gate_11 : decode cX8_gate 11 = .ok (.invokestatic 133, 3) := by decide +kernel
theorem dX8_gate_14 : decode cX8_gate 14 = .ok (.ifCond .ne 9, 3) := by decide +kernel
theorem dX8_gate_17 : decode cX8_gate 17 = .ok (.aload_n 0, 1) := by decide +kernel
theorem dX8_gate_18 : decode cX8_gate 18 = .ok (.iconst 1, 1) := by decide +kernel
theorem dX8_gate_19 : decode cX8_gate 19 = .ok (.invokevirtual 97, 3) := by decide +kernel
theorem dX8_gate_22 : decode cX8_gate 22 = .ok (.ireturn, 1) := by decide +kernel
theorem dX8_gate_23 : decode cX8_gate 23 = .ok (.aload_n 0, 1) := by decide +kernel
theorem dX8_gate_24 : decode cX8_gate 24 = .ok (.aload_n 0, 1) := by decide +kernel
theorem dX8_gate_25 : decode cX8_gate 25 = .ok (.getfield 16, 3) := by decide +kernel
theorem dX8_gate_28 : decode cX8_gate 28 = .ok (.getfield 137, 3) := by decide +kernel
theorem dX8_gate_31 : decode cX8_gate 31 = .ok (.iload_n 1, 1) := by decide +kernel
theorem dX8_gate_32 : decode cX8_gate 32 = .ok (.aaload, 1) := by decide +kernel
theorem dX8_gate_33 : decode cX8_gate 33 = .ok (.iload_n 2, 1) := by decide +kernel
theorem dX8_gate_34 : decode cX8_gate 34 = .ok (.iaload, 1) := by decide +kernel
theorem dX8_gate_35 : decode cX8_gate 35 = .ok (.invokevirtual 123, 3) := by decide +kernel
theorem dX8_gate_38 : decode cX8_gate 38 = .ok (.ireturn, 1) := by decide +kernel
theorem dX8_gateOf_0 : decode cX8_gateOf 0 = .ok (.aload_n 0, 1) := by decide +kernel
theorem dX8_gateOf_1 : decode cX8_gateOf 1 = .ok (.iload_n 1, 1) := by decide +kernel
theorem dX8_gateOf_2 : decode cX8_gateOf 2 = .ok (.invokevirtual 191, 3) := by decide +kernel
theorem dX8_gateOf_5 : decode cX8_gateOf 5 = .ok (.ifCond .eq 7, 3) := by decide +kernel
theorem dX8_gateOf_8 : decode cX8_gateOf 8 = .ok (.iload_n 2, 1) := by decide +kernel
theorem dX8_gateOf_9 : decode cX8_gateOf 9 = .ok (.ifCond .ge 9, 3) := by decide +kernel
theorem dX8_gateOf_12 : decode cX8_gateOf 12 = .ok (.aload_n 0, 1) := by decide +kernel
theorem dX8_gateOf_13 : decode cX8_gateOf 13 = .ok (.iconst 1, 1) := by decide +kernel
theorem dX8_gateOf_14 : decode cX8_gateOf 14 = .ok (.invokevirtual 97, 3) := by decide +kernel
theorem dX8_gateOf_17 : decode cX8_gateOf 17 = .ok (.ireturn, 1) := by decide +kernel
theorem dX8_gateOf_18 : decode cX8_gateOf 18 = .ok (.aload_n 0, 1) := by decide +kernel
theorem dX8_gateOf_19 : decode cX8_gateOf 19 = .ok (.getfield 43, 3) := by decide +kernel
theorem dX8_gateOf_22 : decode cX8_gateOf 22 = .ok (.iload_n 1, 1) := by decide +kernel
theorem dX8_gateOf_23 : decode cX8_gateOf 23 = .ok (.aaload, 1) := by decide +kernel
theorem dX8_gateOf_24 : decode cX8_gateOf 24 = .ok (.astore_n 3, 1) := by decide +kernel
theorem dX8_gateOf_25 : decode cX8_gateOf 25 = .ok (.aload_n 3, 1) := by decide +kernel
theorem dX8_gateOf_26 : decode cX8_gateOf 26 = .ok (.getfield 181, 3) := by decide +kernel
theorem dX8_gateOf_29 : decode cX8_gateOf 29 = .ok (.ifCond .ne 10, 3) := by decide +kernel
theorem dX8_gateOf_32 : decode cX8_gateOf 32 = .ok (.aload_n 0, 1) := by decide +kernel
theorem dX8_gateOf_33 : decode cX8_gateOf 33 = .ok (.bipush 6, 2) := by decide +kernel
theorem dX8_gateOf_35 : decode cX8_gateOf 35 = .ok (.invokevirtual 97, 3) := by decide +kernel
theorem dX8_gateOf_38 : decode cX8_gateOf 38 = .ok (.ireturn, 1) := by decide +kernel
theorem dX8_gateOf_39 : decode cX8_gateOf 39 = .ok (.iload_n 2, 1) := by decide +kernel
theorem dX8_gateOf_40 : decode cX8_gateOf 40 = .ok (.aload_n 3, 1) := by decide +kernel
theorem dX8_gateOf_41 : decode cX8_gateOf 41 = .ok (.getfield 197, 3) := by decide +kernel
theorem dX8_gateOf_44 : decode cX8_gateOf 44 = .ok (.invokestatic 133, 3) := by decide +kernel
theorem dX8_gateOf_47 : decode cX8_gateOf 47 = .ok (.ifCond .ne 9, 3) := by decide +kernel
theorem dX8_gateOf_50 : decode cX8_gateOf 50 = .ok (.aload_n 0, 1) := by decide +kernel
theorem dX8_gateOf_51 : decode cX8_gateOf 51 = .ok (.iconst 1, 1) := by decide +kernel
theorem dX8_gateOf_52 : decode cX8_gateOf 52 = .ok (.invokevirtual 97, 3) := by decide +kernel
theorem dX8_gateOf_55 : decode cX8_gateOf 55 = .ok (.ireturn, 1) := by decide +kernel
theorem dX8_gateOf_56 : decode cX8_gateOf 56 = .ok (.aload_n 0, 1) := by decide +kernel
theorem dX8_gateOf_57 : decode cX8_gateOf 57 = .ok (.aload_n 3, 1) := by decide +kernel
theorem dX8_gateOf_58 : decode cX8_gateOf 58 = .ok (.getfield 200, 3) := by decide +kernel
theorem dX8_gateOf_61 : decode cX8_gateOf 61 = .ok (.iload_n 2, 1) := by decide +kernel
theorem dX8_gateOf_62 : decode cX8_gateOf 62 = .ok (.iaload, 1) := by decide +kernel
theorem dX8_gateOf_63 : decode cX8_gateOf 63 = .ok (.invokevirtual 123, 3) := by decide +kernel
theorem dX8_gateOf_66 : decode cX8_gateOf 66 = .ok (.ireturn, 1) := by decide +kernel
theorem dX8_grant_0 : decode cX8_grant 0 = .ok (.aload_n 0, 1) := by decide +kernel
theorem dX8_grant_1 : decode cX8_grant 1 = .ok (.iconst 0, 1) := by decide +kernel
theorem dX8_grant_2 : decode cX8_grant 2 = .ok (.putfield 126, 3) := by decide +kernel
theorem dX8_grant_5 : decode cX8_grant 5 = .ok (.iload_n 1, 1) := by decide +kernel
theorem dX8_grant_6 : decode cX8_grant 6 = .ok (.ireturn, 1) := by decide +kernel
theorem dX8_hold_0 : decode cX8_hold 0 = .ok (.aload_n 0, 1) := by decide +kernel
theorem dX8_hold_1 : decode cX8_hold 1 = .ok (.iload_n 1, 1) := by decide +kernel
theorem dX8_hold_2 : decode cX8_hold 2 = .ok (.invokevirtual 141, 3) := by decide +kernel
theorem dX8_hold_5 : decode cX8_hold 5 = .ok (.ifCond .ne 9, 3) := by decide +kernel
theorem dX8_hold_8 : decode cX8_hold 8 = .ok (.aload_n 0, 1) := by decide +kernel
theorem dX8_hold_9 : decode cX8_hold 9 = .ok (.iconst 1, 1) := by decide +kernel
theorem dX8_hold_10 : decode cX8_hold 10 = .ok (.invokevirtual 97, 3) := by decide +kernel
theorem dX8_hold_13 : decode cX8_hold 13 = .ok (.ireturn, 1) := by decide +kernel
theorem dX8_hold_14 : decode cX8_hold 14 = .ok (.aload_n 0, 1) := by decide +kernel
theorem dX8_hold_15 : decode cX8_hold 15 = .ok (.aload_n 0, 1) := by decide +kernel
theorem dX8_hold_16 : decode cX8_hold 16 = .ok (.getfield 16, 3) := by decide +kernel
theorem dX8_hold_19 : decode cX8_hold 19 = .ok (.iload_n 1, 1) := by decide +kernel
theorem dX8_hold_20 : decode cX8_hold 20 = .ok (.invokevirtual 272, 3) := by decide +kernel
theorem dX8_hold_23 : decode cX8_hold 23 = .ok (.invokevirtual 123, 3) := by decide +kernel
theorem dX8_hold_26 : decode cX8_hold 26 = .ok (.ireturn, 1) := by decide +kernel
theorem dX8_hours_0 : decode cX8_hours 0 = .ok (.aload_n 0, 1) := by decide +kernel
theorem dX8_hours_1 : decode cX8_hours 1 = .ok (.iload_n 1, 1) := by decide +kernel
theorem dX8_hours_2 : decode cX8_hours 2 = .ok (.iload_n 2, 1) := by decide +kernel
theorem dX8_hours_3 : decode cX8_hours 3 = .ok (.iload_n 3, 1) := by decide +kernel
theorem dX8_hours_4 : decode cX8_hours 4 = .ok (.iload 4, 2) := by decide +kernel
theorem dX8_hours_6 : decode cX8_hours 6 = .ok (.iload 5, 2) := by decide +kernel
theorem dX8_hours_8 : decode cX8_hours 8 = .ok (.invokevirtual 177, 3) := by decide +kernel
theorem dX8_hours_11 : decode cX8_hours 11 = .ok (.ifCond .ne 9, 3) := by decide +kernel
theorem dX8_hours_14 : decode cX8_hours 14 = .ok (.aload_n 0, 1) := by decide +kernel
theorem dX8_hours_15 : decode cX8_hours 15 = .ok (.iconst 1, 1) := by decide +kernel
theorem dX8_hours_16 : decode cX8_hours 16 = .ok (.invokevirtual 97, 3) := by decide +kernel
theorem dX8_hours_19 : decode cX8_hours 19 = .ok (.ireturn, 1) := by decide +kernel
theorem dX8_hours_20 : decode cX8_hours 20 = .ok (.aload_n 0, 1) := by decide +kernel
theorem dX8_hours_21 : decode cX8_hours 21 = .ok (.aload_n 0, 1) := by decide +kernel
theorem dX8_hours_22 : decode cX8_hours 22 = .ok (.getfield 48, 3) := by decide +kernel
theorem dX8_hours_25 : decode cX8_hours 25 = .ok (.getfield 181, 3) := by decide +kernel
theorem dX8_hours_28 : decode cX8_hours 28 = .ok (.ifCond .eq 13, 3) := by decide +kernel
theorem dX8_hours_31 : decode cX8_hours 31 = .ok (.aload_n 0, 1) := by decide +kernel
theorem dX8_hours_32 : decode cX8_hours 32 = .ok (.getfield 48, 3) := by decide +kernel
theorem dX8_hours_35 : decode cX8_hours 35 = .ok (.getfield 188, 3) := by decide +kernel
theorem dX8_hours_38 : decode cX8_hours 38 = .ok (.goto 5, 3) := by decide +kernel
theorem dX8_hours_41 : decode cX8_hours 41 = .ok (.bipush (-2), 2) := by decide +kernel
theorem dX8_hours_43 : decode cX8_hours 43 = .ok (.invokevirtual 123, 3) := by decide +kernel
theorem dX8_hours_46 : decode cX8_hours 46 = .ok (.ireturn, 1) := by decide +kernel
theorem dX8_hoursOf_0 : decode cX8_hoursOf 0 = .ok (.aload_n 0, 1) := by decide +kernel
theorem dX8_hoursOf_1 : decode cX8_hoursOf 1 = .ok (.iload_n 1, 1) := by decide +kernel
theorem dX8_hoursOf_2 : decode cX8_hoursOf 2 = .ok (.invokevirtual 191, 3) := by decide +kernel
theorem dX8_hoursOf_5 : decode cX8_hoursOf 5 = .ok (.ifCond .ne 9, 3) := by decide +kernel
theorem dX8_hoursOf_8 : decode cX8_hoursOf 8 = .ok (.aload_n 0, 1) := by decide +kernel
theorem dX8_hoursOf_9 : decode cX8_hoursOf 9 = .ok (.iconst 1, 1) := by decide +kernel
theorem dX8_hoursOf_10 : decode cX8_hoursOf 10 = .ok (.invokevirtual 97, 3) := by decide +kernel
theorem dX8_hoursOf_13 : decode cX8_hoursOf 13 = .ok (.ireturn, 1) := by decide +kernel
theorem dX8_hoursOf_14 : decode cX8_hoursOf 14 = .ok (.aload_n 0, 1) := by decide +kernel
theorem dX8_hoursOf_15 : decode cX8_hoursOf 15 = .ok (.aload_n 0, 1) := by decide +kernel
theorem dX8_hoursOf_16 : decode cX8_hoursOf 16 = .ok (.getfield 43, 3) := by decide +kernel
theorem dX8_hoursOf_19 : decode cX8_hoursOf 19 = .ok (.iload_n 1, 1) := by decide +kernel
theorem dX8_hoursOf_20 : decode cX8_hoursOf 20 = .ok (.aaload, 1) := by decide +kernel
theorem dX8_hoursOf_21 : decode cX8_hoursOf 21 = .ok (.getfield 181, 3) := by decide +kernel
theorem dX8_hoursOf_24 : decode cX8_hoursOf 24 = .ok (.ifCond .eq 15, 3) := by decide +kernel
theorem dX8_hoursOf_27 : decode cX8_hoursOf 27 = .ok (.aload_n 0, 1) := by decide +kernel
theorem dX8_hoursOf_28 : decode cX8_hoursOf 28 = .ok (.getfield 43, 3) := by decide +kernel
theorem dX8_hoursOf_31 : decode cX8_hoursOf 31 = .ok (.iload_n 1, 1) := by decide +kernel
theorem dX8_hoursOf_32 : decode cX8_hoursOf 32 = .ok (.aaload, 1) := by decide +kernel
theorem dX8_hoursOf_33 : decode cX8_hoursOf 33 = .ok (.getfield 188, 3) := by decide +kernel
theorem dX8_hoursOf_36 : decode cX8_hoursOf 36 = .ok (.goto 5, 3) := by decide +kernel
theorem dX8_hoursOf_39 : decode cX8_hoursOf 39 = .ok (.bipush (-2), 2) := by decide +kernel
theorem dX8_hoursOf_41 : decode cX8_hoursOf 41 = .ok (.invokevirtual 123, 3) := by decide +kernel
theorem dX8_hoursOf_44 : decode cX8_hoursOf 44 = .ok (.ireturn, 1) := by decide +kernel
theorem dX8_init_0 : decode cX8_init 0 = .ok (.aload_n 0, 1) := by decide +kernel
theorem dX8_init_1 : decode cX8_init 1 = .ok (.invokespecial 1, 3) := by decide +kernel
theorem dX8_init_4 : decode cX8_init 4 = .ok (.aload_n 0, 1) := by decide +kernel
theorem dX8_init_5 : decode cX8_init 5 = .ok (.sipush 900, 3) := by decide +kernel
theorem dX8_init_8 : decode cX8_init 8 = .ok (.newarray .int, 2) := by decide +kernel
theorem dX8_init_10 : decode cX8_init 10 = .ok (.putfield 9, 3) := by decide +kernel
theorem dX8_init_13 : decode cX8_init 13 = .ok (.aload_n 0, 1) := by decide +kernel
theorem dX8_init_14 : decode cX8_init 14 = .ok (.new 13, 3) := by decide +kernel
theorem dX8_init_17 : decode cX8_init 17 = .ok (.dup, 1) := by decide +kernel
theorem dX8_init_18 : decode cX8_init 18 = .ok (.invokespecial 15, 3) := by decide +kernel
theorem dX8_init_21 : decode cX8_init 21 = .ok (.putfield 16, 3) := by decide +kernel
theorem dX8_init_24 : decode cX8_init 24 = .ok (.aload_n 0, 1) := by decide +kernel
theorem dX8_init_25 : decode cX8_init 25 = .ok (.new 13, 3) := by decide +kernel
theorem dX8_init_28 : decode cX8_init 28 = .ok (.dup, 1) := by decide +kernel
theorem dX8_init_29 : decode cX8_init 29 = .ok (.invokespecial 15, 3) := by decide +kernel
theorem dX8_init_32 : decode cX8_init 32 = .ok (.putfield 20, 3) := by decide +kernel
theorem dX8_init_35 : decode cX8_init 35 = .ok (.aload_n 0, 1) := by decide +kernel
theorem dX8_init_36 : decode cX8_init 36 = .ok (.new 23, 3) := by decide +kernel
theorem dX8_init_39 : decode cX8_init 39 = .ok (.dup, 1) := by decide +kernel
theorem dX8_init_40 : decode cX8_init 40 = .ok (.aload_n 0, 1) := by decide +kernel
theorem dX8_init_41 : decode cX8_init 41 = .ok (.getfield 9, 3) := by decide +kernel
theorem dX8_init_44 : decode cX8_init 44 = .ok (.aload_n 0, 1) := by decide +kernel
theorem dX8_init_45 : decode cX8_init 45 = .ok (.getfield 20, 3) := by decide +kernel
theorem dX8_init_48 : decode cX8_init 48 = .ok (.invokespecial 25, 3) := by decide +kernel
theorem dX8_init_51 : decode cX8_init 51 = .ok (.putfield 28, 3) := by decide +kernel
theorem dX8_init_54 : decode cX8_init 54 = .ok (.aload_n 0, 1) := by decide +kernel
theorem dX8_init_55 : decode cX8_init 55 = .ok (.new 32, 3) := by decide +kernel
theorem dX8_init_58 : decode cX8_init 58 = .ok (.dup, 1) := by decide +kernel
theorem dX8_init_59 : decode cX8_init 59 = .ok (.aload_n 0, 1) := by decide +kernel
theorem dX8_init_60 : decode cX8_init 60 = .ok (.getfield 16, 3) := by decide +kernel
theorem dX8_init_63 : decode cX8_init 63 = .ok (.invokespecial 34, 3) := by decide +kernel
theorem dX8_init_66 : decode cX8_init 66 = .ok (.putfield 37, 3) := by decide +kernel
theorem dX8_init_69 : decode cX8_init 69 = .ok (.aload_n 0, 1) := by decide +kernel
theorem dX8_init_70 : decode cX8_init 70 = .ok (.bipush 8, 2) := by decide +kernel
theorem dX8_init_72 : decode cX8_init 72 = .ok (.anewarray 41, 3) := by decide +kernel
theorem dX8_init_75 : decode cX8_init 75 = .ok (.putfield 43, 3) := by decide +kernel
theorem dX8_init_78 : decode cX8_init 78 = .ok (.iconst 0, 1) := by decide +kernel
theorem dX8_init_79 : decode cX8_init 79 = .ok (.istore_n 1, 1) := by decide +kernel
theorem dX8_init_80 : decode cX8_init 80 = .ok (.iload_n 1, 1) := by decide +kernel
theorem dX8_init_81 : decode cX8_init 81 = .ok (.bipush 8, 2) := by decide +kernel
theorem dX8_init_83 : decode cX8_init 83 = .ok (.if_icmp .ge 22, 3) := by decide +kernel
theorem dX8_init_86 : decode cX8_init 86 = .ok (.aload_n 0, 1) := by decide +kernel
theorem dX8_init_87 : decode cX8_init 87 = .ok (.getfield 43, 3) := by decide +kernel
theorem dX8_init_90 : decode cX8_init 90 = .ok (.iload_n 1, 1) := by decide +kernel
theorem dX8_init_91 : decode cX8_init 91 = .ok (.new 41, 3) := by decide +kernel
theorem dX8_init_94 : decode cX8_init 94 = .ok (.dup, 1) := by decide +kernel
theorem dX8_init_95 : decode cX8_init 95 = .ok (.invokespecial 47, 3) := by decide +kernel
theorem dX8_init_98 : decode cX8_init 98 = .ok (.aastore, 1) := by decide +kernel
theorem dX8_init_99 : decode cX8_init 99 = .ok (.iinc 1 1, 3) := by decide +kernel
theorem dX8_init_102 : decode cX8_init 102 = .ok (.goto (-22), 3) := by decide +kernel
theorem dX8_init_105 : decode cX8_init 105 = .ok (.aload_n 0, 1) := by decide +kernel
theorem dX8_init_106 : decode cX8_init 106 = .ok (.new 41, 3) := by decide +kernel
theorem dX8_init_109 : decode cX8_init 109 = .ok (.dup, 1) := by decide +kernel
theorem dX8_init_110 : decode cX8_init 110 = .ok (.invokespecial 47, 3) := by decide +kernel
theorem dX8_init_113 : decode cX8_init 113 = .ok (.putfield 48, 3) := by decide +kernel
theorem dX8_init_116 : decode cX8_init 116 = .ok (.aload_n 0, 1) := by decide +kernel
theorem dX8_init_117 : decode cX8_init 117 = .ok (.bipush 6, 2) := by decide +kernel
theorem dX8_init_119 : decode cX8_init 119 = .ok (.newarray .int, 2) := by decide +kernel
theorem dX8_init_121 : decode cX8_init 121 = .ok (.putfield 52, 3) := by decide +kernel
theorem dX8_init_124 : decode cX8_init 124 = .ok (.aload_n 0, 1) := by decide +kernel
theorem dX8_init_125 : decode cX8_init 125 = .ok (.new 55, 3) := by decide +kernel
theorem dX8_init_128 : decode cX8_init 128 = .ok (.dup, 1) := by decide +kernel
theorem dX8_init_129 : decode cX8_init 129 = .ok (.aload_n 0, 1) := by decide +kernel
theorem dX8_init_130 : decode cX8_init 130 = .ok (.getfield 16, 3) := by decide +kernel
theorem dX8_init_133 : decode cX8_init 133 = .ok (.aload_n 0, 1) := by decide +kernel
theorem dX8_init_134 : decode cX8_init 134 = .ok (.getfield 43, 3) := by decide +kernel
theorem dX8_init_137 : decode cX8_init 137 = .ok (.invokespecial 57, 3) := by decide +kernel
theorem dX8_init_140 : decode cX8_init 140 = .ok (.putfield 60, 3) := by decide +kernel
theorem dX8_init_143 : decode cX8_init 143 = .ok (.aload_n 0, 1) := by decide +kernel
theorem dX8_init_144 : decode cX8_init 144 = .ok (.iconst 3, 1) := by decide +kernel
theorem dX8_init_145 : decode cX8_init 145 = .ok (.anewarray 55, 3) := by decide +kernel
theorem dX8_init_148 : decode cX8_init 148 = .ok (.putfield 64, 3) := by decide +kernel
theorem dX8_init_151 : decode cX8_init 151 = .ok (.iconst 0, 1) := by decide +kernel
theorem dX8_init_152 : decode cX8_init 152 = .ok (.istore_n 1, 1) := by decide +kernel
theorem dX8_init_153 : decode cX8_init 153 = .ok (.iload_n 1, 1) := by decide +kernel
theorem dX8_init_154 : decode cX8_init 154 = .ok (.iconst 3, 1) := by decide +kernel
theorem dX8_init_155 : decode cX8_init 155 = .ok (.if_icmp .ge 30, 3) := by decide +kernel
theorem dX8_init_158 : decode cX8_init 158 = .ok (.aload_n 0, 1) := by decide +kernel
theorem dX8_init_159 : decode cX8_init 159 = .ok (.getfield 64, 3) := by decide +kernel
theorem dX8_init_162 : decode cX8_init 162 = .ok (.iload_n 1, 1) := by decide +kernel
theorem dX8_init_163 : decode cX8_init 163 = .ok (.new 55, 3) := by decide +kernel
theorem dX8_init_166 : decode cX8_init 166 = .ok (.dup, 1) := by decide +kernel
theorem dX8_init_167 : decode cX8_init 167 = .ok (.aload_n 0, 1) := by decide +kernel
theorem dX8_init_168 : decode cX8_init 168 = .ok (.getfield 16, 3) := by decide +kernel
theorem dX8_init_171 : decode cX8_init 171 = .ok (.aload_n 0, 1) := by decide +kernel
theorem dX8_init_172 : decode cX8_init 172 = .ok (.getfield 43, 3) := by decide +kernel
theorem dX8_init_175 : decode cX8_init 175 = .ok (.invokespecial 57, 3) := by decide +kernel
theorem dX8_init_178 : decode cX8_init 178 = .ok (.aastore, 1) := by decide +kernel
theorem dX8_init_179 : decode cX8_init 179 = .ok (.iinc 1 1, 3) := by decide +kernel
theorem dX8_init_182 : decode cX8_init 182 = .ok (.goto (-29), 3) := by decide +kernel
theorem dX8_init_185 : decode cX8_init 185 = .ok (.aload_n 0, 1) := by decide +kernel
theorem dX8_init_186 : decode cX8_init 186 = .ok (.new 68, 3) := by decide +kernel
theorem dX8_init_189 : decode cX8_init 189 = .ok (.dup, 1) := by decide +kernel
theorem dX8_init_190 : decode cX8_init 190 = .ok (.invokespecial 70, 3) := by decide +kernel
theorem dX8_init_193 : decode cX8_init 193 = .ok (.putfield 71, 3) := by decide +kernel
theorem dX8_init_196 : decode cX8_init 196 = .ok (.aload_n 0, 1) := by decide +kernel
theorem dX8_init_197 : decode cX8_init 197 = .ok (.new 75, 3) := by decide +kernel
theorem dX8_init_200 : decode cX8_init 200 = .ok (.dup, 1) := by decide +kernel
theorem dX8_init_201 : decode cX8_init 201 = .ok (.invokespecial 77, 3) := by decide +kernel
theorem dX8_init_204 : decode cX8_init 204 = .ok (.putfield 78, 3) := by decide +kernel
theorem dX8_init_207 : decode cX8_init 207 = .ok (.aload_n 0, 1) := by decide +kernel
theorem dX8_init_208 : decode cX8_init 208 = .ok (.new 82, 3) := by decide +kernel
theorem dX8_init_211 : decode cX8_init 211 = .ok (.dup, 1) := by decide +kernel
theorem dX8_init_212 : decode cX8_init 212 = .ok (.invokespecial 84, 3) := by decide +kernel
theorem dX8_init_215 : decode cX8_init 215 = .ok (.putfield 85, 3) := by decide +kernel
theorem dX8_init_218 : decode cX8_init 218 = .ok (.return_, 1) := by decide +kernel
theorem dX8_isCity_0 : decode cX8_isCity 0 = .ok (.aload_n 0, 1) := by decide +kernel
theorem dX8_isCity_1 : decode cX8_isCity 1 = .ok (.getfield 16, 3) := by decide +kernel
theorem dX8_isCity_4 : decode cX8_isCity 4 = .ok (.getfield 120, 3) := by decide +kernel
theorem dX8_isCity_7 : decode cX8_isCity 7 = .ok (.ifCond .le 7, 3) := by decide +kernel
theorem dX8_isCity_10 : decode cX8_isCity 10 = .ok (.iconst 1, 1) := by decide +kernel
theorem dX8_isCity_11 : decode cX8_isCity 11 = .ok (.goto 4, 3) := by decide +kernel
theorem dX8_isCity_14 : decode cX8_isCity 14 = .ok (.iconst 0, 1) := by decide +kernel
theorem dX8_isCity_15 : decode cX8_isCity 15 = .ok (.ireturn, 1) := by decide +kernel
theorem dX8_isGate_0 : decode cX8_isGate 0 = .ok (.iload_n 1, 1) := by decide +kernel
theorem dX8_isGate_1 : decode cX8_isGate 1 = .ok (.aload_n 0, 1) := by decide +kernel
theorem dX8_isGate_2 : decode cX8_isGate 2 = .ok (.getfield 16, 3) := by decide +kernel
theorem dX8_isGate_5 : decode cX8_isGate 5 = .ok (.getfield 261, 3) := by decide +kernel
theorem dX8_isGate_8 : decode cX8_isGate 8 = .ok (.invokestatic 133, 3) := by decide +kernel
theorem dX8_isGate_11 : decode cX8_isGate 11 = .ok (.ireturn, 1) := by decide +kernel
theorem dX8_isGood_0 : decode cX8_isGood 0 = .ok (.iload_n 1, 1) := by decide +kernel
theorem dX8_isGood_1 : decode cX8_isGood 1 = .ok (.aload_n 0, 1) := by decide +kernel
theorem dX8_isGood_2 : decode cX8_isGood 2 = .ok (.getfield 16, 3) := by decide +kernel
theorem dX8_isGood_5 : decode cX8_isGood 5 = .ok (.getfield 299, 3) := by decide +kernel
theorem dX8_isGood_8 : decode cX8_isGood 8 = .ok (.invokestatic 133, 3) := by decide +kernel
theorem dX8_isGood_11 : decode cX8_isGood 11 = .ok (.ireturn, 1) := by decide +kernel
theorem dX8_isOrder_0 : decode cX8_isOrder 0 = .ok (.iload_n 1, 1) := by decide +kernel
theorem dX8_isOrder_1 : decode cX8_isOrder 1 = .ok (.aload_n 0, 1) := by decide +kernel
theorem dX8_isOrder_2 : decode cX8_isOrder 2 = .ok (.getfield 16, 3) := by decide +kernel
theorem dX8_isOrder_5 : decode cX8_isOrder 5 = .ok (.getfield 293, 3) := by decide +kernel
theorem dX8_isOrder_8 : decode cX8_isOrder 8 = .ok (.invokestatic 133, 3) := by decide +kernel
theorem dX8_isOrder_11 : decode cX8_isOrder 11 = .ok (.ireturn, 1) := by decide +kernel
theorem dX8_isRing_0 : decode cX8_isRing 0 = .ok (.iload_n 1, 1) := by decide +kernel
theorem dX8_isRing_1 : decode cX8_isRing 1 = .ok (.aload_n 0, 1) := by decide +kernel
theorem dX8_isRing_2 : decode cX8_isRing 2 = .ok (.getfield 16, 3) := by decide +kernel
theorem dX8_isRing_5 : decode cX8_isRing 5 = .ok (.getfield 120, 3) := by decide +kernel
theorem dX8_isRing_8 : decode cX8_isRing 8 = .ok (.invokestatic 133, 3) := by decide +kernel
theorem dX8_isRing_11 : decode cX8_isRing 11 = .ok (.ireturn, 1) := by decide +kernel
theorem dX8_isSize_0 : decode cX8_isSize 0 = .ok (.iload_n 0, 1) := by decide +kernel
theorem dX8_isSize_1 : decode cX8_isSize 1 = .ok (.iconst 1, 1) := by decide +kernel
theorem dX8_isSize_2 : decode cX8_isSize 2 = .ok (.if_icmp .lt 13, 3) := by decide +kernel
theorem dX8_isSize_5 : decode cX8_isSize 5 = .ok (.iload_n 0, 1) := by decide +kernel
theorem dX8_isSize_6 : decode cX8_isSize 6 = .ok (.bipush 99, 2) := by decide +kernel
theorem dX8_isSize_8 : decode cX8_isSize 8 = .ok (.if_icmp .gt 7, 3) := by decide +kernel
theorem dX8_isSize_11 : decode cX8_isSize 11 = .ok (.iconst 1, 1) := by decide +kernel
theorem dX8_isSize_12 : decode cX8_isSize 12 = .ok (.goto 4, 3) := by decide +kernel
theorem dX8_isSize_15 : decode cX8_isSize 15 = .ok (.iconst 0, 1) := by decide +kernel
theorem dX8_isSize_16 : decode cX8_isSize 16 = .ok (.ireturn, 1) := by decide +kernel
theorem dX8_isSpot_0 : decode cX8_isSpot 0 = .ok (.aload_n 0, 1) := by decide +kernel
theorem dX8_isSpot_1 : decode cX8_isSpot 1 = .ok (.iload_n 1, 1) := by decide +kernel
theorem dX8_isSpot_2 : decode cX8_isSpot 2 = .ok (.invokevirtual 141, 3) := by decide +kernel
theorem dX8_isSpot_5 : decode cX8_isSpot 5 = .ok (.ifCond .eq 16, 3) := by decide +kernel
theorem dX8_isSpot_8 : decode cX8_isSpot 8 = .ok (.iload_n 2, 1) := by decide +kernel
theorem dX8_isSpot_9 : decode cX8_isSpot 9 = .ok (.bipush 12, 2) := by decide +kernel
theorem dX8_isSpot_11 : decode cX8_isSpot 11 = .ok (.invokestatic 133, 3) := by decide +kernel
theorem dX8_isSpot_14 : decode cX8_isSpot 14 = .ok (.ifCond .eq 7, 3) := by decide +kernel
theorem dX8_isSpot_17 : decode cX8_isSpot 17 = .ok (.iconst 1, 1) := by decide +kernel
theorem dX8_isSpot_18 : decode cX8_isSpot 18 = .ok (.goto 4, 3) := by decide +kernel
theorem dX8_isSpot_21 : decode cX8_isSpot 21 = .ok (.iconst 0, 1) := by decide +kernel
theorem dX8_isSpot_22 : decode cX8_isSpot 22 = .ok (.ireturn, 1) := by decide +kernel
theorem dX8_led_0 : decode cX8_led 0 = .ok (.iload_n 1, 1) := by decide +kernel
theorem dX8_led_1 : decode cX8_led 1 = .ok (.istore_n 2, 1) := by decide +kernel
theorem dX8_led_2 : decode cX8_led 2 = .ok (.iconst 0, 1) := by decide +kernel
theorem dX8_led_3 : decode cX8_led 3 = .ok (.istore_n 3, 1) := by decide +kernel
theorem dX8_led_4 : decode cX8_led 4 = .ok (.iload_n 1, 1) := by decide +kernel
theorem dX8_led_5 : decode cX8_led 5 = .ok (.ifCond .lt 41, 3) := by decide +kernel
theorem dX8_led_8 : decode cX8_led 8 = .ok (.iload_n 3, 1) := by decide +kernel
theorem dX8_led_9 : decode cX8_led 9 = .ok (.aload_n 0, 1) := by decide +kernel
theorem dX8_led_10 : decode cX8_led 10 = .ok (.getfield 16, 3) := by decide +kernel
theorem dX8_led_13 : decode cX8_led 13 = .ok (.getfield 293, 3) := by decide +kernel
theorem dX8_led_16 : decode cX8_led 16 = .ok (.if_icmp .ge 30, 3) := by decide +kernel
theorem dX8_led_19 : decode cX8_led 19 = .ok (.aload_n 0, 1) := by decide +kernel
theorem dX8_led_20 : decode cX8_led 20 = .ok (.getfield 43, 3) := by decide +kernel
theorem dX8_led_23 : decode cX8_led 23 = .ok (.iload_n 3, 1) := by decide +kernel
theorem dX8_led_24 : decode cX8_led 24 = .ok (.aaload, 1) := by decide +kernel
theorem dX8_led_25 : decode cX8_led 25 = .ok (.getfield 181, 3) := by decide +kernel
theorem dX8_led_28 : decode cX8_led 28 = .ok (.ifCond .ne 12, 3) := by decide +kernel
theorem dX8_led_31 : decode cX8_led 31 = .ok (.iload_n 2, 1) := by decide +kernel
theorem dX8_led_32 : decode cX8_led 32 = .ok (.ifCond .ne 5, 3) := by decide +kernel
theorem dX8_led_35 : decode cX8_led 35 = .ok (.iload_n 3, 1) := by decide +kernel
theorem dX8_led_36 : decode cX8_led 36 = .ok (.ireturn, 1) := by decide +kernel
theorem dX8_led_37 : decode cX8_led 37 = .ok (.iinc 2 (-1), 3) := by decide +kernel
theorem dX8_led_40 : decode cX8_led 40 = .ok (.iinc 3 1, 3) := by decide +kernel
theorem dX8_led_43 : decode cX8_led 43 = .ok (.goto (-39), 3) := by decide +kernel
theorem dX8_led_46 : decode cX8_led 46 = .ok (.new 296, 3) := by decide +kernel
theorem dX8_led_49 : decode cX8_led 49 = .ok (.dup, 1) := by decide +kernel
theorem dX8_led_50 : decode cX8_led 50 = .ok (.invokespecial 298, 3) := by decide +kernel
theorem dX8_led_53 : decode cX8_led 53 = .ok (.athrow, 1) := by decide +kernel
theorem dX8_load_0 : decode cX8_load 0 = .ok (.iload_n 1, 1) := by decide +kernel
theorem dX8_load_1 : decode cX8_load 1 = .ok (.aload_n 0, 1) := by decide +kernel
theorem dX8_load_2 : decode cX8_load 2 = .ok (.getfield 60, 3) := by decide +kernel
theorem dX8_load_5 : decode cX8_load 5 = .ok (.getfield 225, 3) := by decide +kernel
theorem dX8_load_8 : decode cX8_load 8 = .ok (.invokestatic 133, 3) := by decide +kernel
theorem dX8_load_11 : decode cX8_load 11 = .ok (.ifCond .eq 12, 3) := by decide +kernel
theorem dX8_load_14 : decode cX8_load 14 = .ok (.iload_n 2, 1) := by decide +kernel
theorem dX8_load_15 : decode cX8_load 15 = .ok (.bipush 8, 2) := by decide +kernel
theorem dX8_load_17 : decode cX8_load 17 = .ok (.invokestatic 133, 3) := by decide +kernel
theorem dX8_load_20 : decode cX8_load 20 = .ok (.ifCond .ne 9, 3) := by decide +kernel
theorem dX8_load_23 : decode cX8_load 23 = .ok (.aload_n 0, 1) := by decide +kernel
theorem dX8_load_24 : decode cX8_load 24 = .ok (.iconst 1, 1) := by decide +kernel
theorem dX8_load_25 : decode cX8_load 25 = .ok (.invokevirtual 97, 3) := by decide +kernel
theorem dX8_load_28 : decode cX8_load 28 = .ok (.ireturn, 1) := by decide +kernel
theorem dX8_load_29 : decode cX8_load 29 = .ok (.aload_n 0, 1) := by decide +kernel
theorem dX8_load_30 : decode cX8_load 30 = .ok (.aload_n 0, 1) := by decide +kernel
theorem dX8_load_31 : decode cX8_load 31 = .ok (.getfield 60, 3) := by decide +kernel
theorem dX8_load_34 : decode cX8_load 34 = .ok (.getfield 226, 3) := by decide +kernel
theorem dX8_load_37 : decode cX8_load 37 = .ok (.iload_n 2, 1) := by decide +kernel
theorem dX8_load_38 : decode cX8_load 38 = .ok (.aaload, 1) := by decide +kernel
theorem dX8_load_39 : decode cX8_load 39 = .ok (.iload_n 1, 1) := by decide +kernel
theorem dX8_load_40 : decode cX8_load 40 = .ok (.iaload, 1) := by decide +kernel
theorem dX8_load_41 : decode cX8_load 41 = .ok (.invokevirtual 123, 3) := by decide +kernel
theorem dX8_load_44 : decode cX8_load 44 = .ok (.ireturn, 1) := by decide +kernel
theorem dX8_loads_0 : decode cX8_loads 0 = .ok (.aload_n 0, 1) := by decide +kernel
theorem dX8_loads_1 : decode cX8_loads 1 = .ok (.invokevirtual 202, 3) := by decide +kernel
theorem dX8_loads_4 : decode cX8_loads 4 = .ok (.ifCond .ne 9, 3) := by decide +kernel
theorem dX8_loads_7 : decode cX8_loads 7 = .ok (.aload_n 0, 1) := by decide +kernel
theorem dX8_loads_8 : decode cX8_loads 8 = .ok (.iconst 1, 1) := by decide +kernel
theorem dX8_loads_9 : decode cX8_loads 9 = .ok (.invokevirtual 97, 3) := by decide +kernel
theorem dX8_loads_12 : decode cX8_loads 12 = .ok (.ireturn, 1) := by decide +kernel
theorem dX8_loads_13 : decode cX8_loads 13 = .ok (.aload_n 0, 1) := by decide +kernel
theorem dX8_loads_14 : decode cX8_loads 14 = .ok (.aload_n 0, 1) := by decide +kernel
theorem dX8_loads_15 : decode cX8_loads 15 = .ok (.getfield 60, 3) := by decide +kernel
theorem dX8_loads_18 : decode cX8_loads 18 = .ok (.getfield 225, 3) := by decide +kernel
theorem dX8_loads_21 : decode cX8_loads 21 = .ok (.invokevirtual 123, 3) := by decide +kernel
theorem dX8_loads_24 : decode cX8_loads 24 = .ok (.ireturn, 1) := by decide +kernel
theorem dX8_loadsOf_0 : decode cX8_loadsOf 0 = .ok (.aload_n 0, 1) := by decide +kernel
theorem dX8_loadsOf_1 : decode cX8_loadsOf 1 = .ok (.iload_n 1, 1) := by decide +kernel
theorem dX8_loadsOf_2 : decode cX8_loadsOf 2 = .ok (.invokevirtual 191, 3) := by decide +kernel
theorem dX8_loadsOf_5 : decode cX8_loadsOf 5 = .ok (.ifCond .ne 9, 3) := by decide +kernel
theorem dX8_loadsOf_8 : decode cX8_loadsOf 8 = .ok (.aload_n 0, 1) := by decide +kernel
theorem dX8_loadsOf_9 : decode cX8_loadsOf 9 = .ok (.iconst 1, 1) := by decide +kernel
theorem dX8_loadsOf_10 : decode cX8_loadsOf 10 = .ok (.invokevirtual 97, 3) := by decide +kernel
theorem dX8_loadsOf_13 : decode cX8_loadsOf 13 = .ok (.ireturn, 1) := by decide +kernel
theorem dX8_loadsOf_14 : decode cX8_loadsOf 14 = .ok (.aload_n 0, 1) := by decide +kernel
theorem dX8_loadsOf_15 : decode cX8_loadsOf 15 = .ok (.getfield 43, 3) := by decide +kernel
theorem dX8_loadsOf_18 : decode cX8_loadsOf 18 = .ok (.iload_n 1, 1) := by decide +kernel
theorem dX8_loadsOf_19 : decode cX8_loadsOf 19 = .ok (.aaload, 1) := by decide +kernel
theorem dX8_loadsOf_20 : decode cX8_loadsOf 20 = .ok (.getfield 181, 3) := by decide +kernel
theorem dX8_loadsOf_23 : decode cX8_loadsOf 23 = .ok (.ifCond .ne 10, 3) := by decide +kernel
theorem dX8_loadsOf_26 : decode cX8_loadsOf 26 = .ok (.aload_n 0, 1) := by decide +kernel
theorem dX8_loadsOf_27 : decode cX8_loadsOf 27 = .ok (.bipush 6, 2) := by decide +kernel
theorem dX8_loadsOf_29 : decode cX8_loadsOf 29 = .ok (.invokevirtual 97, 3) := by decide +kernel
theorem dX8_loadsOf_32 : decode cX8_loadsOf 32 = .ok (.ireturn, 1) := by decide +kernel
theorem dX8_loadsOf_33 : decode cX8_loadsOf 33 = .ok (.aload_n 0, 1) := by decide +kernel
theorem dX8_loadsOf_34 : decode cX8_loadsOf 34 = .ok (.aload_n 0, 1) := by decide +kernel
theorem dX8_loadsOf_35 : decode cX8_loadsOf 35 = .ok (.getfield 43, 3) := by decide +kernel
theorem dX8_loadsOf_38 : decode cX8_loadsOf 38 = .ok (.iload_n 1, 1) := by decide +kernel
theorem dX8_loadsOf_39 : decode cX8_loadsOf 39 = .ok (.aaload, 1) := by decide +kernel
theorem dX8_loadsOf_40 : decode cX8_loadsOf 40 = .ok (.getfield 194, 3) := by decide +kernel
theorem dX8_loadsOf_43 : decode cX8_loadsOf 43 = .ok (.invokevirtual 123, 3) := by decide +kernel
theorem dX8_loadsOf_46 : decode cX8_loadsOf 46 = .ok (.ireturn, 1) := by decide +kernel
theorem dX8_mark_0 : decode cX8_mark 0 = .ok (.aload_n 0, 1) := by decide +kernel
theorem dX8_mark_1 : decode cX8_mark 1 = .ok (.invokevirtual 202, 3) := by decide +kernel
theorem dX8_mark_4 : decode cX8_mark 4 = .ok (.ifCond .ne 9, 3) := by decide +kernel
theorem dX8_mark_7 : decode cX8_mark 7 = .ok (.aload_n 0, 1) := by decide +kernel
theorem dX8_mark_8 : decode cX8_mark 8 = .ok (.iconst 1, 1) := by decide +kernel
theorem dX8_mark_9 : decode cX8_mark 9 = .ok (.invokevirtual 97, 3) := by decide +kernel
theorem dX8_mark_12 : decode cX8_mark 12 = .ok (.ireturn, 1) := by decide +kernel
theorem dX8_mark_13 : decode cX8_mark 13 = .ok (.aload_n 0, 1) := by decide +kernel
theorem dX8_mark_14 : decode cX8_mark 14 = .ok (.getfield 247, 3) := by decide +kernel
theorem dX8_mark_17 : decode cX8_mark 17 = .ok (.iconst 3, 1) := by decide +kernel
theorem dX8_mark_18 : decode cX8_mark 18 = .ok (.if_icmp .lt 9, 3) := by decide +kernel
theorem dX8_mark_21 : decode cX8_mark 21 = .ok (.aload_n 0, 1) := by decide +kernel
theorem dX8_mark_22 : decode cX8_mark 22 = .ok (.iconst 3, 1) := by decide +kernel
theorem dX8_mark_23 : decode cX8_mark 23 = .ok (.invokevirtual 97, 3) := by decide +kernel
theorem dX8_mark_26 : decode cX8_mark 26 = .ok (.ireturn, 1) := by decide +kernel
theorem dX8_mark_27 : decode cX8_mark 27 = .ok (.aload_n 0, 1) := by decide +kernel
theorem dX8_mark_28 : decode cX8_mark 28 = .ok (.getfield 64, 3) := by decide +kernel
theorem dX8_mark_31 : decode cX8_mark 31 = .ok (.aload_n 0, 1) := by decide +kernel
theorem dX8_mark_32 : decode cX8_mark 32 = .ok (.getfield 247, 3) := by decide +kernel
theorem dX8_mark_35 : decode cX8_mark 35 = .ok (.aaload, 1) := by decide +kernel
theorem dX8_mark_36 : decode cX8_mark 36 = .ok (.aload_n 0, 1) := by decide +kernel
theorem dX8_mark_37 : decode cX8_mark 37 = .ok (.getfield 60, 3) := by decide +kernel
theorem dX8_mark_40 : decode cX8_mark 40 = .ok (.invokevirtual 250, 3) := by decide +kernel
theorem dX8_mark_43 : decode cX8_mark 43 = .ok (.aload_n 0, 1) := by decide +kernel
theorem dX8_mark_44 : decode cX8_mark 44 = .ok (.dup, 1) := by decide +kernel
theorem dX8_mark_45 : decode cX8_mark 45 = .ok (.getfield 247, 3) := by decide +kernel
theorem dX8_mark_48 : decode cX8_mark 48 = .ok (.iconst 1, 1) := by decide +kernel
theorem dX8_mark_49 : decode cX8_mark 49 = .ok (.iadd, 1) := by decide +kernel
theorem dX8_mark_50 : decode cX8_mark 50 = .ok (.putfield 247, 3) := by decide +kernel
theorem dX8_mark_53 : decode cX8_mark 53 = .ok (.aload_n 0, 1) := by decide +kernel
theorem dX8_mark_54 : decode cX8_mark 54 = .ok (.aload_n 0, 1) := by decide +kernel
theorem dX8_mark_55 : decode cX8_mark 55 = .ok (.getfield 247, 3) := by decide +kernel
theorem dX8_mark_58 : decode cX8_mark 58 = .ok (.iconst 1, 1) := by decide +kernel
theorem dX8_mark_59 : decode cX8_mark 59 = .ok (.isub, 1) := by decide +kernel
theorem dX8_mark_60 : decode cX8_mark 60 = .ok (.invokevirtual 123, 3) := by decide +kernel
theorem dX8_mark_63 : decode cX8_mark 63 = .ok (.ireturn, 1) := by decide +kernel
theorem dX8_pass_0 : decode cX8_pass 0 = .ok (.aload_n 0, 1) := by decide +kernel
theorem dX8_pass_1 : decode cX8_pass 1 = .ok (.invokevirtual 202, 3) := by decide +kernel
theorem dX8_pass_4 : decode cX8_pass 4 = .ok (.ifCond .ne 9, 3) := by decide +kernel
theorem dX8_pass_7 : decode cX8_pass 7 = .ok (.aload_n 0, 1) := by decide +kernel
theorem dX8_pass_8 : decode cX8_pass 8 = .ok (.iconst 1, 1) := by decide +kernel
theorem dX8_pass_9 : decode cX8_pass 9 = .ok (.invokevirtual 97, 3) := by decide +kernel
theorem dX8_pass_12 : decode cX8_pass 12 = .ok (.ireturn, 1) := by decide +kernel
theorem dX8_pass_13 : decode cX8_pass 13 = .ok (.iload_n 1, 1) := by decide +kernel
theorem dX8_pass_14 : decode cX8_pass 14 = .ok (.iconst 1, 1) := by decide +kernel
theorem dX8_pass_15 : decode cX8_pass 15 = .ok (.if_icmp .lt 9, 3) := by decide +kernel
theorem dX8_pass_18 : decode cX8_pass 18 = .ok (.iload_n 1, 1) := by decide +kernel
theorem dX8_pass_19 : decode cX8_pass 19 = .ok (.bipush 60, 2) := by decide +kernel
theorem dX8_pass_21 : decode cX8_pass 21 = .ok (.if_icmp .le 9, 3) := by decide +kernel
theorem dX8_pass_24 : decode cX8_pass 24 = .ok (.aload_n 0, 1) := by decide +kernel
theorem dX8_pass_25 : decode cX8_pass 25 = .ok (.iconst 2, 1) := by decide +kernel
theorem dX8_pass_26 : decode cX8_pass 26 = .ok (.invokevirtual 97, 3) := by decide +kernel
theorem dX8_pass_29 : decode cX8_pass 29 = .ok (.ireturn, 1) := by decide +kernel
theorem dX8_pass_30 : decode cX8_pass 30 = .ok (.aload_n 0, 1) := by decide +kernel
theorem dX8_pass_31 : decode cX8_pass 31 = .ok (.getfield 60, 3) := by decide +kernel
theorem dX8_pass_34 : decode cX8_pass 34 = .ok (.getfield 210, 3) := by decide +kernel
theorem dX8_pass_37 : decode cX8_pass 37 = .ok (.iload_n 1, 1) := by decide +kernel
theorem dX8_pass_38 : decode cX8_pass 38 = .ok (.iadd, 1) := by decide +kernel
theorem dX8_pass_39 : decode cX8_pass 39 = .ok (.bipush 120, 2) := by decide +kernel
theorem dX8_pass_41 : decode cX8_pass 41 = .ok (.if_icmp .le 9, 3) := by decide +kernel
theorem dX8_pass_44 : decode cX8_pass 44 = .ok (.aload_n 0, 1) := by decide +kernel
theorem dX8_pass_45 : decode cX8_pass 45 = .ok (.iconst 3, 1) := by decide +kernel
theorem dX8_pass_46 : decode cX8_pass 46 = .ok (.invokevirtual 97, 3) := by decide +kernel
theorem dX8_pass_49 : decode cX8_pass 49 = .ok (.ireturn, 1) := by decide +kernel
theorem dX8_pass_50 : decode cX8_pass 50 = .ok (.iconst 0, 1) := by decide +kernel
theorem dX8_pass_51 : decode cX8_pass 51 = .ok (.istore_n 2, 1) := by decide +kernel
theorem dX8_pass_52 : decode cX8_pass 52 = .ok (.iload_n 2, 1) := by decide +kernel
theorem dX8_pass_53 : decode cX8_pass 53 = .ok (.iload_n 1, 1) := by decide +kernel
theorem dX8_pass_54 : decode cX8_pass 54 = .ok (.if_icmp .ge 16, 3) := by decide +kernel
theorem dX8_pass_57 : decode cX8_pass 57 = .ok (.aload_n 0, 1) := by decide +kernel
theorem dX8_pass_58 : decode cX8_pass 58 = .ok (.getfield 60, 3) := by decide +kernel
theorem dX8_pass_61 : decode cX8_pass 61 = .ok (.invokevirtual 213, 3) := by decide +kernel
theorem dX8_pass_64 : decode cX8_pass 64 = .ok (.iinc 2 1, 3) := by decide +kernel
theorem dX8_pass_67 : decode cX8_pass 67 = .ok (.goto (-15), 3) := by decide +kernel
theorem dX8_pass_70 : decode cX8_pass 70 = .ok (.aload_n 0, 1) := by decide +kernel
theorem dX8_pass_71 : decode cX8_pass 71 = .ok (.aload_n 0, 1) := by decide +kernel
theorem dX8_pass_72 : decode cX8_pass 72 = .ok (.getfield 60, 3) := by decide +kernel
theorem dX8_pass_75 : decode cX8_pass 75 = .ok (.getfield 210, 3) := by decide +kernel
theorem dX8_pass_78 : decode cX8_pass 78 = .ok (.invokevirtual 123, 3) := by decide +kernel
theorem dX8_pass_81 : decode cX8_pass 81 = .ok (.ireturn, 1) := by decide +kernel
theorem dX8_pay_0 : decode cX8_pay 0 = .ok (.aload_n 0, 1) := by decide +kernel
theorem dX8_pay_1 : decode cX8_pay 1 = .ok (.iload_n 1, 1) := by decide +kernel
theorem dX8_pay_2 : decode cX8_pay 2 = .ok (.iload_n 2, 1) := by decide +kernel
theorem dX8_pay_3 : decode cX8_pay 3 = .ok (.iload_n 3, 1) := by decide +kernel
theorem dX8_pay_4 : decode cX8_pay 4 = .ok (.iload 4, 2) := by decide +kernel
theorem dX8_pay_6 : decode cX8_pay 6 = .ok (.iload 5, 2) := by decide +kernel
theorem dX8_pay_8 : decode cX8_pay 8 = .ok (.invokevirtual 177, 3) := by decide +kernel
theorem dX8_pay_11 : decode cX8_pay 11 = .ok (.ifCond .ne 9, 3) := by decide +kernel
theorem dX8_pay_14 : decode cX8_pay 14 = .ok (.aload_n 0, 1) := by decide +kernel
theorem dX8_pay_15 : decode cX8_pay 15 = .ok (.iconst 1, 1) := by decide +kernel
theorem dX8_pay_16 : decode cX8_pay 16 = .ok (.invokevirtual 97, 3) := by decide +kernel
theorem dX8_pay_19 : decode cX8_pay 19 = .ok (.ireturn, 1) := by decide +kernel
theorem dX8_pay_20 : decode cX8_pay 20 = .ok (.aload_n 0, 1) := by decide +kernel
theorem dX8_pay_21 : decode cX8_pay 21 = .ok (.aload_n 0, 1) := by decide +kernel
theorem dX8_pay_22 : decode cX8_pay 22 = .ok (.getfield 48, 3) := by decide +kernel
theorem dX8_pay_25 : decode cX8_pay 25 = .ok (.getfield 181, 3) := by decide +kernel
theorem dX8_pay_28 : decode cX8_pay 28 = .ok (.ifCond .eq 13, 3) := by decide +kernel
theorem dX8_pay_31 : decode cX8_pay 31 = .ok (.aload_n 0, 1) := by decide +kernel
theorem dX8_pay_32 : decode cX8_pay 32 = .ok (.getfield 48, 3) := by decide +kernel
theorem dX8_pay_35 : decode cX8_pay 35 = .ok (.getfield 185, 3) := by decide +kernel
theorem dX8_pay_38 : decode cX8_pay 38 = .ok (.goto 5, 3) := by decide +kernel
theorem dX8_pay_41 : decode cX8_pay 41 = .ok (.bipush (-2), 2) := by decide +kernel
theorem dX8_pay_43 : decode cX8_pay 43 = .ok (.invokevirtual 123, 3) := by decide +kernel
theorem dX8_pay_46 : decode cX8_pay 46 = .ok (.ireturn, 1) := by decide +kernel
theorem dX8_payOf_0 : decode cX8_payOf 0 = .ok (.aload_n 0, 1) := by decide +kernel
theorem dX8_payOf_1 : decode cX8_payOf 1 = .ok (.iload_n 1, 1) := by decide +kernel
theorem dX8_payOf_2 : decode cX8_payOf 2 = .ok (.invokevirtual 191, 3) := by decide +kernel
theorem dX8_payOf_5 : decode cX8_payOf 5 = .ok (.ifCond .ne 9, 3) := by decide +kernel
theorem dX8_payOf_8 : decode cX8_payOf 8 = .ok (.aload_n 0, 1) := by decide +kernel
theorem dX8_payOf_9 : decode cX8_payOf 9 = .ok (.iconst 1, 1) := by decide +kernel
theorem dX8_payOf_10 : decode cX8_payOf 10 = .ok (.invokevirtual 97, 3) := by decide +kernel
theorem dX8_payOf_13 : decode cX8_payOf 13 = .ok (.ireturn, 1) := by decide +kernel
theorem dX8_payOf_14 : decode cX8_payOf 14 = .ok (.aload_n 0, 1) := by decide +kernel
theorem dX8_payOf_15 : decode cX8_payOf 15 = .ok (.aload_n 0, 1) := by decide +kernel
theorem dX8_payOf_16 : decode cX8_payOf 16 = .ok (.getfield 43, 3) := by decide +kernel
theorem dX8_payOf_19 : decode cX8_payOf 19 = .ok (.iload_n 1, 1) := by decide +kernel
theorem dX8_payOf_20 : decode cX8_payOf 20 = .ok (.aaload, 1) := by decide +kernel
theorem dX8_payOf_21 : decode cX8_payOf 21 = .ok (.getfield 181, 3) := by decide +kernel
theorem dX8_payOf_24 : decode cX8_payOf 24 = .ok (.ifCond .eq 15, 3) := by decide +kernel
theorem dX8_payOf_27 : decode cX8_payOf 27 = .ok (.aload_n 0, 1) := by decide +kernel
theorem dX8_payOf_28 : decode cX8_payOf 28 = .ok (.getfield 43, 3) := by decide +kernel
theorem dX8_payOf_31 : decode cX8_payOf 31 = .ok (.iload_n 1, 1) := by decide +kernel
theorem dX8_payOf_32 : decode cX8_payOf 32 = .ok (.aaload, 1) := by decide +kernel
theorem dX8_payOf_33 : decode cX8_payOf 33 = .ok (.getfield 185, 3) := by decide +kernel
theorem dX8_payOf_36 : decode cX8_payOf 36 = .ok (.goto 5, 3) := by decide +kernel
theorem dX8_payOf_39 : decode cX8_payOf 39 = .ok (.bipush (-2), 2) := by decide +kernel
theorem dX8_payOf_41 : decode cX8_payOf 41 = .ok (.invokevirtual 123, 3) := by decide +kernel
theorem dX8_payOf_44 : decode cX8_payOf 44 = .ok (.ireturn, 1) := by decide +kernel
theorem dX8_planAnew_0 : decode cX8_planAnew 0 = .ok (.iconst 0, 1) := by decide +kernel
theorem dX8_planAnew_1 : decode cX8_planAnew 1 = .ok (.istore_n 1, 1) := by decide +kernel
theorem dX8_planAnew_2 : decode cX8_planAnew 2 = .ok (.iload_n 1, 1) := by decide +kernel
theorem dX8_planAnew_3 : decode cX8_planAnew 3 = .ok (.aload_n 0, 1) := by decide +kernel
theorem dX8_planAnew_4 : decode cX8_planAnew 4 = .ok (.getfield 16, 3) := by decide +kernel
theorem dX8_planAnew_7 : decode cX8_planAnew 7 = .ok (.getfield 293, 3) := by decide +kernel
theorem dX8_planAnew_10 : decode cX8_planAnew 10 = .ok (.if_icmp .ge 35, 3) := by decide +kernel
theorem dX8_planAnew_13 : decode cX8_planAnew 13 = .ok (.aload_n 0, 1) := by decide +kernel
theorem dX8_planAnew_14 : decode cX8_planAnew 14 = .ok (.getfield 37, 3) := by decide +kernel
theorem dX8_planAnew_17 : decode cX8_planAnew 17 = .ok (.aload_n 0, 1) := by decide +kernel
theorem dX8_planAnew_18 : decode cX8_planAnew 18 = .ok (.getfield 16, 3) := by decide +kernel
theorem dX8_planAnew_21 : decode cX8_planAnew 21 = .ok (.aload_n 0, 1) := by decide +kernel
theorem dX8_planAnew_22 : decode cX8_planAnew 22 = .ok (.getfield 16, 3) := by decide +kernel
theorem dX8_planAnew_25 : decode cX8_planAnew 25 = .ok (.getfield 306, 3) := by decide +kernel
theorem dX8_planAnew_28 : decode cX8_planAnew 28 = .ok (.iload_n 1, 1) := by decide +kernel
theorem dX8_planAnew_29 : decode cX8_planAnew 29 = .ok (.aaload, 1) := by decide +kernel
theorem dX8_planAnew_30 : decode cX8_planAnew 30 = .ok (.aload_n 0, 1) := by decide +kernel
theorem dX8_planAnew_31 : decode cX8_planAnew 31 = .ok (.getfield 43, 3) := by decide +kernel
theorem dX8_planAnew_34 : decode cX8_planAnew 34 = .ok (.iload_n 1, 1) := by decide +kernel
theorem dX8_planAnew_35 : decode cX8_planAnew 35 = .ok (.aaload, 1) := by decide +kernel
theorem dX8_planAnew_36 : decode cX8_planAnew 36 = .ok (.invokevirtual 302, 3) := by decide +kernel
theorem dX8_planAnew_39 : decode cX8_planAnew 39 = .ok (.iinc 1 1, 3) := by decide +kernel
theorem dX8_planAnew_42 : decode cX8_planAnew 42 = .ok (.goto (-40), 3) := by decide +kernel
theorem dX8_planAnew_45 : decode cX8_planAnew 45 = .ok (.aload_n 0, 1) := by decide +kernel
theorem dX8_planAnew_46 : decode cX8_planAnew 46 = .ok (.getfield 60, 3) := by decide +kernel
theorem dX8_planAnew_49 : decode cX8_planAnew 49 = .ok (.aload_n 0, 1) := by decide +kernel
theorem dX8_planAnew_50 : decode cX8_planAnew 50 = .ok (.getfield 16, 3) := by decide +kernel
theorem dX8_planAnew_53 : decode cX8_planAnew 53 = .ok (.aload_n 0, 1) := by decide +kernel
theorem dX8_planAnew_54 : decode cX8_planAnew 54 = .ok (.getfield 43, 3) := by decide +kernel
theorem dX8_planAnew_57 : decode cX8_planAnew 57 = .ok (.invokevirtual 219, 3) := by decide +kernel
theorem dX8_planAnew_60 : decode cX8_planAnew 60 = .ok (.aload_n 0, 1) := by decide +kernel
theorem dX8_planAnew_61 : decode cX8_planAnew 61 = .ok (.iconst 0, 1) := by decide +kernel
theorem dX8_planAnew_62 : decode cX8_planAnew 62 = .ok (.putfield 247, 3) := by decide +kernel
theorem dX8_planAnew_65 : decode cX8_planAnew 65 = .ok (.return_, 1) := by decide +kernel
theorem dX8_ram_0 : decode cX8_ram 0 = .ok (.aload_n 0, 1) := by decide +kernel
theorem dX8_ram_1 : decode cX8_ram 1 = .ok (.invokevirtual 202, 3) := by decide +kernel
theorem dX8_ram_4 : decode cX8_ram 4 = .ok (.ifCond .ne 9, 3) := by decide +kernel
theorem dX8_ram_7 : decode cX8_ram 7 = .ok (.aload_n 0, 1) := by decide +kernel
theorem dX8_ram_8 : decode cX8_ram 8 = .ok (.iconst 1, 1) := by decide +kernel
theorem dX8_ram_9 : decode cX8_ram 9 = .ok (.invokevirtual 97, 3) := by decide +kernel
theorem dX8_ram_12 : decode cX8_ram 12 = .ok (.ireturn, 1) := by decide +kernel
theorem dX8_ram_13 : decode cX8_ram 13 = .ok (.iload_n 1, 1) := by decide +kernel
theorem dX8_ram_14 : decode cX8_ram 14 = .ok (.invokestatic 254, 3) := by decide +kernel
theorem dX8_ram_17 : decode cX8_ram 17 = .ok (.ifCond .eq 17, 3) := by decide +kernel
theorem dX8_ram_20 : decode cX8_ram 20 = .ok (.iload_n 2, 1) := by decide +kernel
theorem dX8_ram_21 : decode cX8_ram 21 = .ok (.invokestatic 254, 3) := by decide +kernel
theorem dX8_ram_24 : decode cX8_ram 24 = .ok (.ifCond .eq 10, 3) := by decide +kernel
theorem dX8_ram_27 : decode cX8_ram 27 = .ok (.iload_n 3, 1) := by decide +kernel
theorem dX8_ram_28 : decode cX8_ram 28 = .ok (.invokestatic 254, 3) := by decide +kernel
theorem dX8_ram_31 : decode cX8_ram 31 = .ok (.ifCond .ne 9, 3) := by decide +kernel
theorem dX8_ram_34 : decode cX8_ram 34 = .ok (.aload_n 0, 1) := by decide +kernel
theorem dX8_ram_35 : decode cX8_ram 35 = .ok (.iconst 2, 1) := by decide +kernel
theorem dX8_ram_36 : decode cX8_ram 36 = .ok (.invokevirtual 97, 3) := by decide +kernel
theorem dX8_ram_39 : decode cX8_ram 39 = .ok (.ireturn, 1) := by decide +kernel
theorem dX8_ram_40 : decode cX8_ram 40 = .ok (.aload_n 0, 1) := by decide +kernel
theorem dX8_ram_41 : decode cX8_ram 41 = .ok (.getfield 85, 3) := by decide +kernel
theorem dX8_ram_44 : decode cX8_ram 44 = .ok (.iload_n 1, 1) := by decide +kernel
theorem dX8_ram_45 : decode cX8_ram 45 = .ok (.iload_n 2, 1) := by decide +kernel
theorem dX8_ram_46 : decode cX8_ram 46 = .ok (.iload_n 3, 1) := by decide +kernel
theorem dX8_ram_47 : decode cX8_ram 47 = .ok (.invokevirtual 262, 3) := by decide +kernel
theorem dX8_ram_50 : decode cX8_ram 50 = .ok (.aload_n 0, 1) := by decide +kernel
theorem dX8_ram_51 : decode cX8_ram 51 = .ok (.aload_n 0, 1) := by decide +kernel
theorem dX8_ram_52 : decode cX8_ram 52 = .ok (.getfield 16, 3) := by decide +kernel
theorem dX8_ram_55 : decode cX8_ram 55 = .ok (.aload_n 0, 1) := by decide +kernel
theorem dX8_ram_56 : decode cX8_ram 56 = .ok (.getfield 85, 3) := by decide +kernel
theorem dX8_ram_59 : decode cX8_ram 59 = .ok (.iconst 0, 1) := by decide +kernel
theorem dX8_ram_60 : decode cX8_ram 60 = .ok (.invokevirtual 173, 3) := by decide +kernel
theorem dX8_ram_63 : decode cX8_ram 63 = .ok (.invokevirtual 123, 3) := by decide +kernel
theorem dX8_ram_66 : decode cX8_ram 66 = .ok (.ireturn, 1) := by decide +kernel
theorem dX8_ramBy_0 : decode cX8_ramBy 0 = .ok (.aload_n 0, 1) := by decide +kernel
theorem dX8_ramBy_1 : decode cX8_ramBy 1 = .ok (.iload_n 1, 1) := by decide +kernel
theorem dX8_ramBy_2 : decode cX8_ramBy 2 = .ok (.invokevirtual 129, 3) := by decide +kernel
theorem dX8_ramBy_5 : decode cX8_ramBy 5 = .ok (.ifCond .ne 9, 3) := by decide +kernel
theorem dX8_ramBy_8 : decode cX8_ramBy 8 = .ok (.aload_n 0, 1) := by decide +kernel
theorem dX8_ramBy_9 : decode cX8_ramBy 9 = .ok (.iconst 1, 1) := by decide +kernel
theorem dX8_ramBy_10 : decode cX8_ramBy 10 = .ok (.invokevirtual 97, 3) := by decide +kernel
theorem dX8_ramBy_13 : decode cX8_ramBy 13 = .ok (.ireturn, 1) := by decide +kernel
theorem dX8_ramBy_14 : decode cX8_ramBy 14 = .ok (.iload_n 2, 1) := by decide +kernel
theorem dX8_ramBy_15 : decode cX8_ramBy 15 = .ok (.invokestatic 254, 3) := by decide +kernel
theorem dX8_ramBy_18 : decode cX8_ramBy 18 = .ok (.ifCond .eq 26, 3) := by decide +kernel
theorem dX8_ramBy_21 : decode cX8_ramBy 21 = .ok (.iload_n 3, 1) := by decide +kernel
theorem dX8_ramBy_22 : decode cX8_ramBy 22 = .ok (.invokestatic 254, 3) := by decide +kernel
theorem dX8_ramBy_25 : decode cX8_ramBy 25 = .ok (.ifCond .eq 19, 3) := by decide +kernel
theorem dX8_ramBy_28 : decode cX8_ramBy 28 = .ok (.iload 4, 2) := by decide +kernel
theorem dX8_ramBy_30 : decode cX8_ramBy 30 = .ok (.invokestatic 254, 3) := by decide +kernel
theorem dX8_ramBy_33 : decode cX8_ramBy 33 = .ok (.ifCond .eq 11, 3) := by decide +kernel
theorem dX8_ramBy_36 : decode cX8_ramBy 36 = .ok (.iload 5, 2) := by decide +kernel
theorem dX8_ramBy_38 : decode cX8_ramBy 38 = .ok (.invokestatic 254, 3) := by decide +kernel
theorem dX8_ramBy_41 : decode cX8_ramBy 41 = .ok (.ifCond .ne 9, 3) := by decide +kernel
theorem dX8_ramBy_44 : decode cX8_ramBy 44 = .ok (.aload_n 0, 1) := by decide +kernel
theorem dX8_ramBy_45 : decode cX8_ramBy 45 = .ok (.iconst 2, 1) := by decide +kernel
theorem dX8_ramBy_46 : decode cX8_ramBy 46 = .ok (.invokevirtual 97, 3) := by decide +kernel
theorem dX8_ramBy_49 : decode cX8_ramBy 49 = .ok (.ireturn, 1) := by decide +kernel
theorem dX8_ramBy_50 : decode cX8_ramBy 50 = .ok (.aload_n 0, 1) := by decide +kernel
theorem dX8_ramBy_51 : decode cX8_ramBy 51 = .ok (.getfield 85, 3) := by decide +kernel
theorem dX8_ramBy_54 : decode cX8_ramBy 54 = .ok (.iload_n 2, 1) := by decide +kernel
theorem dX8_ramBy_55 : decode cX8_ramBy 55 = .ok (.iload_n 3, 1) := by decide +kernel
theorem dX8_ramBy_56 : decode cX8_ramBy 56 = .ok (.iload 4, 2) := by decide +kernel
theorem dX8_ramBy_58 : decode cX8_ramBy 58 = .ok (.invokevirtual 262, 3) := by decide +kernel
theorem dX8_ramBy_61 : decode cX8_ramBy 61 = .ok (.aload_n 0, 1) := by decide +kernel
theorem dX8_ramBy_62 : decode cX8_ramBy 62 = .ok (.getfield 16, 3) := by decide +kernel
theorem dX8_ramBy_65 : decode cX8_ramBy 65 = .ok (.getfield 137, 3) := by decide +kernel
theorem dX8_ramBy_68 : decode cX8_ramBy 68 = .ok (.iload_n 1, 1) := by decide +kernel
theorem dX8_ramBy_69 : decode cX8_ramBy 69 = .ok (.aaload, 1) := by decide +kernel
theorem dX8_ramBy_70 : decode cX8_ramBy 70 = .ok (.astore 6, 2) := by decide +kernel
theorem dX8_ramBy_72 : decode cX8_ramBy 72 = .ok (.aload 6, 2) := by decide +kernel
theorem dX8_ramBy_74 : decode cX8_ramBy 74 = .ok (.iconst 2, 1) := by decide +kernel
theorem dX8_ramBy_75 : decode cX8_ramBy 75 = .ok (.iaload, 1) := by decide +kernel
theorem dX8_ramBy_76 : decode cX8_ramBy 76 = .ok (.istore 7, 2) := by decide +kernel
theorem dX8_ramBy_78 : decode cX8_ramBy 78 = .ok (.aload 6, 2) := by decide +kernel
theorem dX8_ramBy_80 : decode cX8_ramBy 80 = .ok (.iconst 2, 1) := by decide +kernel
theorem dX8_ramBy_81 : decode cX8_ramBy 81 = .ok (.iload 7, 2) := by decide +kernel
theorem dX8_ramBy_83 : decode cX8_ramBy 83 = .ok (.iload 5, 2) := by decide +kernel
theorem dX8_ramBy_85 : decode cX8_ramBy 85 = .ok (.invokestatic 266, 3) := by decide +kernel
theorem dX8_ramBy_88 : decode cX8_ramBy 88 = .ok (.iastore, 1) := by decide +kernel
theorem dX8_ramBy_89 : decode cX8_ramBy 89 = .ok (.aload_n 0, 1) := by decide +kernel
theorem dX8_ramBy_90 : decode cX8_ramBy 90 = .ok (.getfield 16, 3) := by decide +kernel
theorem dX8_ramBy_93 : decode cX8_ramBy 93 = .ok (.aload_n 0, 1) := by decide +kernel
theorem dX8_ramBy_94 : decode cX8_ramBy 94 = .ok (.getfield 85, 3) := by decide +kernel
theorem dX8_ramBy_97 : decode cX8_ramBy 97 = .ok (.iconst 0, 1) := by decide +kernel
theorem dX8_ramBy_98 : decode cX8_ramBy 98 = .ok (.invokevirtual 173, 3) := by decide +kernel
theorem dX8_ramBy_101 : decode cX8_ramBy 101 = .ok (.istore 8, 2) := by decide +kernel
theorem dX8_ramBy_103 : decode cX8_ramBy 103 = .ok (.aload 6, 2) := by decide +kernel
theorem dX8_ramBy_105 : decode cX8_ramBy 105 = .ok (.iconst 2, 1) := by decide +kernel
theorem dX8_ramBy_106 : decode cX8_ramBy 106 = .ok (.iload 7, 2) := by decide +kernel
theorem dX8_ramBy_108 : decode cX8_ramBy 108 = .ok (.iastore, 1) := by decide +kernel
theorem dX8_ramBy_109 : decode cX8_ramBy 109 = .ok (.aload_n 0, 1) := by decide +kernel
theorem dX8_ramBy_110 : decode cX8_ramBy 110 = .ok (.iload 8, 2) := by decide +kernel
theorem dX8_ramBy_112 : decode cX8_ramBy 112 = .ok (.invokevirtual 123, 3) := by decide +kernel
theorem dX8_ramBy_115 : decode cX8_ramBy 115 = .ok (.ireturn, 1) := by decide +kernel
theorem dX8_refuse_0 : decode cX8_refuse 0 = .ok (.aload_n 0, 1) := by decide +kernel
theorem dX8_refuse_1 : decode cX8_refuse 1 = .ok (.iload_n 1, 1) := by decide +kernel
theorem dX8_refuse_2 : decode cX8_refuse 2 = .ok (.putfield 126, 3) := by decide +kernel
theorem dX8_refuse_5 : decode cX8_refuse 5 = .ok (.iconst (-1), 1) := by decide +kernel
theorem dX8_refuse_6 : decode cX8_refuse 6 = .ok (.ireturn, 1) := by decide +kernel
theorem dX8_saves_0 : decode cX8_saves 0 = .ok (.aload_n 0, 1) := by decide +kernel
theorem dX8_saves_1 : decode cX8_saves 1 = .ok (.iload_n 1, 1) := by decide +kernel
theorem dX8_saves_2 : decode cX8_saves 2 = .ok (.invokevirtual 129, 3) := by decide +kernel
theorem dX8_saves_5 : decode cX8_saves 5 = .ok (.ifCond .ne 12, 3) := by decide +kernel
theorem dX8_saves_8 : decode cX8_saves 8 = .ok (.aload_n 0, 1) := by decide +kernel
theorem dX8_saves_9 : decode cX8_saves 9 = .ok (.iconst 1, 1) := by decide +kernel
theorem dX8_saves_10 : decode cX8_saves 10 = .ok (.putfield 126, 3) := by decide +kernel
theorem dX8_saves_13 : decode cX8_saves 13 = .ok (.sipush (-10000), 3) := by decide +kernel
theorem dX8_saves_16 : decode cX8_saves 16 = .ok (.ireturn, 1) := by decide +kernel
theorem dX8_saves_17 : decode cX8_saves 17 = .ok (.iload_n 2, 1) := by decide +kernel
theorem dX8_saves_18 : decode cX8_saves 18 = .ok (.invokestatic 254, 3) := by decide +kernel
theorem dX8_saves_21 : decode cX8_saves 21 = .ok (.ifCond .eq 10, 3) := by decide +kernel
theorem dX8_saves_24 : decode cX8_saves 24 = .ok (.iload_n 3, 1) := by decide +kernel
theorem dX8_saves_25 : decode cX8_saves 25 = .ok (.invokestatic 254, 3) := by decide +kernel
theorem dX8_saves_28 : decode cX8_saves 28 = .ok (.ifCond .ne 12, 3) := by decide +kernel
theorem dX8_saves_31 : decode cX8_saves 31 = .ok (.aload_n 0, 1) := by decide +kernel
theorem dX8_saves_32 : decode cX8_saves 32 = .ok (.iconst 2, 1) := by decide +kernel
theorem dX8_saves_33 : decode cX8_saves 33 = .ok (.putfield 126, 3) := by decide +kernel
theorem dX8_saves_36 : decode cX8_saves 36 = .ok (.sipush (-10000), 3) := by decide +kernel
theorem dX8_saves_39 : decode cX8_saves 39 = .ok (.ireturn, 1) := by decide +kernel
theorem dX8_saves_40 : decode cX8_saves 40 = .ok (.aload_n 0, 1) := by decide +kernel
theorem dX8_saves_41 : decode cX8_saves 41 = .ok (.aload_n 0, 1) := by decide +kernel
theorem dX8_saves_42 : decode cX8_saves 42 = .ok (.iload_n 1, 1) := by decide +kernel
theorem dX8_saves_43 : decode cX8_saves 43 = .ok (.iload_n 2, 1) := by decide +kernel
theorem dX8_saves_44 : decode cX8_saves 44 = .ok (.iload_n 3, 1) := by decide +kernel
theorem dX8_saves_45 : decode cX8_saves 45 = .ok (.invokevirtual 257, 3) := by decide +kernel
theorem dX8_saves_48 : decode cX8_saves 48 = .ok (.invokevirtual 123, 3) := by decide +kernel
theorem dX8_saves_51 : decode cX8_saves 51 = .ok (.ireturn, 1) := by decide +kernel
theorem dX8_savingOf_0 : decode cX8_savingOf 0 = .ok (.aload_n 0, 1) := by decide +kernel
theorem dX8_savingOf_1 : decode cX8_savingOf 1 = .ok (.getfield 16, 3) := by decide +kernel
theorem dX8_savingOf_4 : decode cX8_savingOf 4 = .ok (.getfield 137, 3) := by decide +kernel
theorem dX8_savingOf_7 : decode cX8_savingOf 7 = .ok (.iload_n 1, 1) := by decide +kernel
theorem dX8_savingOf_8 : decode cX8_savingOf 8 = .ok (.aaload, 1) := by decide +kernel
theorem dX8_savingOf_9 : decode cX8_savingOf 9 = .ok (.astore 4, 2) := by decide +kernel
theorem dX8_savingOf_11 : decode cX8_savingOf 11 = .ok (.aload 4, 2) := by decide +kernel
theorem dX8_savingOf_13 : decode cX8_savingOf 13 = .ok (.iconst 2, 1) := by decide +kernel
theorem dX8_savingOf_14 : decode cX8_savingOf 14 = .ok (.iaload, 1) := by decide +kernel
theorem dX8_savingOf_15 : decode cX8_savingOf 15 = .ok (.istore 5, 2) := by decide +kernel
theorem dX8_savingOf_17 : decode cX8_savingOf 17 = .ok (.aload 4, 2) := by decide +kernel
theorem dX8_savingOf_19 : decode cX8_savingOf 19 = .ok (.iconst 3, 1) := by decide +kernel
theorem dX8_savingOf_20 : decode cX8_savingOf 20 = .ok (.iaload, 1) := by decide +kernel
theorem dX8_savingOf_21 : decode cX8_savingOf 21 = .ok (.istore 6, 2) := by decide +kernel
theorem dX8_savingOf_23 : decode cX8_savingOf 23 = .ok (.aload 4, 2) := by decide +kernel
theorem dX8_savingOf_25 : decode cX8_savingOf 25 = .ok (.bipush 6, 2) := by decide +kernel
theorem dX8_savingOf_27 : decode cX8_savingOf 27 = .ok (.iaload, 1) := by decide +kernel
theorem dX8_savingOf_28 : decode cX8_savingOf 28 = .ok (.ifCond .ne 15, 3) := by decide +kernel
theorem dX8_savingOf_31 : decode cX8_savingOf 31 = .ok (.iload_n 2, 1) := by decide +kernel
theorem dX8_savingOf_32 : decode cX8_savingOf 32 = .ok (.iload 5, 2) := by decide +kernel
theorem dX8_savingOf_34 : decode cX8_savingOf 34 = .ok (.if_icmp .gt 11, 3) := by decide +kernel
theorem dX8_savingOf_37 : decode cX8_savingOf 37 = .ok (.iload_n 3, 1) := by decide +kernel
theorem dX8_savingOf_38 : decode cX8_savingOf 38 = .ok (.iload 6, 2) := by decide +kernel
theorem dX8_savingOf_40 : decode cX8_savingOf 40 = .ok (.if_icmp .gt 5, 3) := by decide +kernel
theorem dX8_savingOf_43 : decode cX8_savingOf 43 = .ok (.iconst 0, 1) := by decide +kernel
theorem dX8_savingOf_44 : decode cX8_savingOf 44 = .ok (.ireturn, 1) := by decide +kernel
theorem dX8_savingOf_45 : decode cX8_savingOf 45 = .ok (.aload_n 0, 1) := by decide +kernel
theorem dX8_savingOf_46 : decode cX8_savingOf 46 = .ok (.invokevirtual 206, 3) := by decide +kernel
theorem dX8_savingOf_49 : decode cX8_savingOf 49 = .ok (.istore 7, 2) := by decide +kernel
theorem dX8_savingOf_51 : decode cX8_savingOf 51 = .ok (.aload 4, 2) := by decide +kernel
theorem dX8_savingOf_53 : decode cX8_savingOf 53 = .ok (.iload_n 2, 1) := by decide +kernel
theorem dX8_savingOf_54 : decode cX8_savingOf 54 = .ok (.iload_n 3, 1) := by decide +kernel
theorem dX8_savingOf_55 : decode cX8_savingOf 55 = .ok (.invokestatic 286, 3) := by decide +kernel
theorem dX8_savingOf_58 : decode cX8_savingOf 58 = .ok (.iconst 0, 1) := by decide +kernel
theorem dX8_savingOf_59 : decode cX8_savingOf 59 = .ok (.istore 8, 2) := by decide +kernel
theorem dX8_savingOf_61 : decode cX8_savingOf 61 = .ok (.iload 8, 2) := by decide +kernel
theorem dX8_savingOf_63 : decode cX8_savingOf 63 = .ok (.aload_n 0, 1) := by decide +kernel
theorem dX8_savingOf_64 : decode cX8_savingOf 64 = .ok (.getfield 16, 3) := by decide +kernel
theorem dX8_savingOf_67 : decode cX8_savingOf 67 = .ok (.getfield 293, 3) := by decide +kernel
theorem dX8_savingOf_70 : decode cX8_savingOf 70 = .ok (.if_icmp .ge 62, 3) := by decide +kernel
theorem dX8_savingOf_73 : decode cX8_savingOf 73 = .ok (.aload_n 0, 1) := by decide +kernel
theorem dX8_savingOf_74 : decode cX8_savingOf 74 = .ok (.getfield 37, 3) := by decide +kernel
theorem dX8_savingOf_77 : decode cX8_savingOf 77 = .ok (.aload_n 0, 1) := by decide +kernel
theorem dX8_savingOf_78 : decode cX8_savingOf 78 = .ok (.getfield 16, 3) := by decide +kernel
theorem dX8_savingOf_81 : decode cX8_savingOf 81 = .ok (.aload_n 0, 1) := by decide +kernel
theorem dX8_savingOf_82 : decode cX8_savingOf 82 = .ok (.getfield 16, 3) := by decide +kernel
theorem dX8_savingOf_85 : decode cX8_savingOf 85 = .ok (.getfield 306, 3) := by decide +kernel
theorem dX8_savingOf_88 : decode cX8_savingOf 88 = .ok (.iload 8, 2) := by decide +kernel
theorem dX8_savingOf_90 : decode cX8_savingOf 90 = .ok (.aaload, 1) := by decide +kernel
theorem dX8_savingOf_91 : decode cX8_savingOf 91 = .ok (.aload_n 0, 1) := by decide +kernel
theorem dX8_savingOf_92 : decode cX8_savingOf 92 = .ok (.getfield 48, 3) := by decide +kernel
theorem dX8_savingOf_95 : decode cX8_savingOf 95 = .ok (.invokevirtual 302, 3) := by decide +kernel
theorem dX8_savingOf_98 : decode cX8_savingOf 98 = .ok (.iload 7, 2) := by decide +kernel
theorem dX8_savingOf_100 : decode cX8_savingOf 100 = .ok (.aload_n 0, 1) := by decide +kernel
theorem dX8_savingOf_101 : decode cX8_savingOf 101 = .ok (.getfield 48, 3) := by decide +kernel
theorem dX8_savingOf_104 : decode cX8_savingOf 104 = .ok (.getfield 181, 3) := by decide +kernel
theorem dX8_savingOf_107 : decode cX8_savingOf 107 = .ok (.ifCond .eq 13, 3) := by decide +kernel
theorem dX8_savingOf_110 : decode cX8_savingOf 110 = .ok (.aload_n 0, 1) := by decide +kernel
theorem dX8_savingOf_111 : decode cX8_savingOf 111 = .ok (.getfield 48, 3) := by decide +kernel
theorem dX8_savingOf_114 : decode cX8_savingOf 114 = .ok (.getfield 185, 3) := by decide +kernel
theorem dX8_savingOf_117 : decode cX8_savingOf 117 = .ok (.goto 6, 3) := by decide +kernel
theorem dX8_savingOf_120 : decode cX8_savingOf 120 = .ok (.sipush 9999, 3) := by decide +kernel
theorem dX8_savingOf_123 : decode cX8_savingOf 123 = .ok (.isub, 1) := by decide +kernel
theorem dX8_savingOf_124 : decode cX8_savingOf 124 = .ok (.istore 7, 2) := by decide +kernel
theorem dX8_savingOf_126 : decode cX8_savingOf 126 = .ok (.iinc 8 1, 3) := by decide +kernel
theorem dX8_savingOf_129 : decode cX8_savingOf 129 = .ok (.goto (-68), 3) := by decide +kernel
theorem dX8_savingOf_132 : decode cX8_savingOf 132 = .ok (.aload 4, 2) := by decide +kernel
theorem dX8_savingOf_134 : decode cX8_savingOf 134 = .ok (.iconst 2, 1) := by decide +kernel
theorem dX8_savingOf_135 : decode cX8_savingOf 135 = .ok (.iload 5, 2) := by decide +kernel
theorem dX8_savingOf_137 : decode cX8_savingOf 137 = .ok (.iastore, 1) := by decide +kernel
theorem dX8_savingOf_138 : decode cX8_savingOf 138 = .ok (.aload 4, 2) := by decide +kernel
theorem dX8_savingOf_140 : decode cX8_savingOf 140 = .ok (.iconst 3, 1) := by decide +kernel
theorem dX8_savingOf_141 : decode cX8_savingOf 141 = .ok (.iload 6, 2) := by decide +kernel
theorem dX8_savingOf_143 : decode cX8_savingOf 143 = .ok (.iastore, 1) := by decide +kernel
theorem dX8_savingOf_144 : decode cX8_savingOf 144 = .ok (.iload 7, 2) := by decide +kernel
theorem dX8_savingOf_146 : decode cX8_savingOf 146 = .ok (.ireturn, 1) := by decide +kernel
theorem dX8_size_0 : decode cX8_size 0 = .ok (.iload_n 1, 1) := by decide +kernel
theorem dX8_size_1 : decode cX8_size 1 = .ok (.tableswitch 117 0 8 #[51, 59, 67, 75, 83, 91, 99, 104, 112], 51) := by decide +kernel
theorem dX8_size_52 : decode cX8_size 52 = .ok (.aload_n 0, 1) := by decide +kernel
theorem dX8_size_53 : decode cX8_size 53 = .ok (.getfield 16, 3) := by decide +kernel
theorem dX8_size_56 : decode cX8_size 56 = .ok (.getfield 120, 3) := by decide +kernel
theorem dX8_size_59 : decode cX8_size 59 = .ok (.ireturn, 1) := by decide +kernel
theorem dX8_size_60 : decode cX8_size 60 = .ok (.aload_n 0, 1) := by decide +kernel
theorem dX8_size_61 : decode cX8_size 61 = .ok (.getfield 16, 3) := by decide +kernel
theorem dX8_size_64 : decode cX8_size 64 = .ok (.getfield 261, 3) := by decide +kernel
theorem dX8_size_67 : decode cX8_size 67 = .ok (.ireturn, 1) := by decide +kernel
theorem dX8_size_68 : decode cX8_size 68 = .ok (.aload_n 0, 1) := by decide +kernel
theorem dX8_size_69 : decode cX8_size 69 = .ok (.getfield 16, 3) := by decide +kernel
theorem dX8_size_72 : decode cX8_size 72 = .ok (.getfield 229, 3) := by decide +kernel
theorem dX8_size_75 : decode cX8_size 75 = .ok (.ireturn, 1) := by decide +kernel
theorem dX8_size_76 : decode cX8_size 76 = .ok (.aload_n 0, 1) := by decide +kernel
theorem dX8_size_77 : decode cX8_size 77 = .ok (.getfield 16, 3) := by decide +kernel
theorem dX8_size_80 : decode cX8_size 80 = .ok (.getfield 299, 3) := by decide +kernel
theorem dX8_size_83 : decode cX8_size 83 = .ok (.ireturn, 1) := by decide +kernel
theorem dX8_size_84 : decode cX8_size 84 = .ok (.aload_n 0, 1) := by decide +kernel
theorem dX8_size_85 : decode cX8_size 85 = .ok (.getfield 16, 3) := by decide +kernel
theorem dX8_size_88 : decode cX8_size 88 = .ok (.getfield 293, 3) := by decide +kernel
theorem dX8_size_91 : decode cX8_size 91 = .ok (.ireturn, 1) := by decide +kernel
theorem dX8_size_92 : decode cX8_size 92 = .ok (.aload_n 0, 1) := by decide +kernel
theorem dX8_size_93 : decode cX8_size 93 = .ok (.getfield 60, 3) := by decide +kernel
theorem dX8_size_96 : decode cX8_size 96 = .ok (.getfield 210, 3) := by decide +kernel
theorem dX8_size_99 : decode cX8_size 99 = .ok (.ireturn, 1) := by decide +kernel
theorem dX8_size_100 : decode cX8_size 100 = .ok (.aload_n 0, 1) := by decide +kernel
theorem dX8_size_101 : decode cX8_size 101 = .ok (.getfield 247, 3) := by decide +kernel
theorem dX8_size_104 : decode cX8_size 104 = .ok (.ireturn, 1) := by decide +kernel
theorem dX8_size_105 : decode cX8_size 105 = .ok (.aload_n 0, 1) := by decide +kernel
theorem dX8_size_106 : decode cX8_size 106 = .ok (.getfield 71, 3) := by decide +kernel
theorem dX8_size_109 : decode cX8_size 109 = .ok (.getfield 114, 3) := by decide +kernel
theorem dX8_size_112 : decode cX8_size 112 = .ok (.ireturn, 1) := by decide +kernel
theorem dX8_size_113 : decode cX8_size 113 = .ok (.aload_n 0, 1) := by decide +kernel
theorem dX8_size_114 : decode cX8_size 114 = .ok (.getfield 89, 3) := by decide +kernel
theorem dX8_size_117 : decode cX8_size 117 = .ok (.ireturn, 1) := by decide +kernel
theorem dX8_size_118 : decode cX8_size 118 = .ok (.iconst (-1), 1) := by decide +kernel
theorem dX8_size_119 : decode cX8_size 119 = .ok (.ireturn, 1) := by decide +kernel
theorem dX8_stand_0 : decode cX8_stand 0 = .ok (.aload_n 0, 1) := by decide +kernel
theorem dX8_stand_1 : decode cX8_stand 1 = .ok (.invokevirtual 202, 3) := by decide +kernel
theorem dX8_stand_4 : decode cX8_stand 4 = .ok (.ifCond .ne 9, 3) := by decide +kernel
theorem dX8_stand_7 : decode cX8_stand 7 = .ok (.aload_n 0, 1) := by decide +kernel
theorem dX8_stand_8 : decode cX8_stand 8 = .ok (.iconst 1, 1) := by decide +kernel
theorem dX8_stand_9 : decode cX8_stand 9 = .ok (.invokevirtual 97, 3) := by decide +kernel
theorem dX8_stand_12 : decode cX8_stand 12 = .ok (.ireturn, 1) := by decide +kernel
theorem dX8_stand_13 : decode cX8_stand 13 = .ok (.iconst 0, 1) := by decide +kernel
theorem dX8_stand_14 : decode cX8_stand 14 = .ok (.istore_n 1, 1) := by decide +kernel
theorem dX8_stand_15 : decode cX8_stand 15 = .ok (.iconst 1, 1) := by decide +kernel
theorem dX8_stand_16 : decode cX8_stand 16 = .ok (.istore_n 2, 1) := by decide +kernel
theorem dX8_stand_17 : decode cX8_stand 17 = .ok (.iload_n 2, 1) := by decide +kernel
theorem dX8_stand_18 : decode cX8_stand 18 = .ok (.aload_n 0, 1) := by decide +kernel
theorem dX8_stand_19 : decode cX8_stand 19 = .ok (.getfield 16, 3) := by decide +kernel
theorem dX8_stand_22 : decode cX8_stand 22 = .ok (.getfield 120, 3) := by decide +kernel
theorem dX8_stand_25 : decode cX8_stand 25 = .ok (.if_icmp .ge 30, 3) := by decide +kernel
theorem dX8_stand_28 : decode cX8_stand 28 = .ok (.aload_n 0, 1) := by decide +kernel
theorem dX8_stand_29 : decode cX8_stand 29 = .ok (.getfield 16, 3) := by decide +kernel
theorem dX8_stand_32 : decode cX8_stand 32 = .ok (.iload_n 2, 1) := by decide +kernel
theorem dX8_stand_33 : decode cX8_stand 33 = .ok (.invokevirtual 272, 3) := by decide +kernel
theorem dX8_stand_36 : decode cX8_stand 36 = .ok (.aload_n 0, 1) := by decide +kernel
theorem dX8_stand_37 : decode cX8_stand 37 = .ok (.getfield 16, 3) := by decide +kernel
theorem dX8_stand_40 : decode cX8_stand 40 = .ok (.iload_n 1, 1) := by decide +kernel
theorem dX8_stand_41 : decode cX8_stand 41 = .ok (.invokevirtual 272, 3) := by decide +kernel
theorem dX8_stand_44 : decode cX8_stand 44 = .ok (.if_icmp .lt 5, 3) := by decide +kernel
theorem dX8_stand_47 : decode cX8_stand 47 = .ok (.iload_n 2, 1) := by decide +kernel
theorem dX8_stand_48 : decode cX8_stand 48 = .ok (.istore_n 1, 1) := by decide +kernel
theorem dX8_stand_49 : decode cX8_stand 49 = .ok (.iinc 2 1, 3) := by decide +kernel
theorem dX8_stand_52 : decode cX8_stand 52 = .ok (.goto (-35), 3) := by decide +kernel
theorem dX8_stand_55 : decode cX8_stand 55 = .ok (.aload_n 0, 1) := by decide +kernel
theorem dX8_stand_56 : decode cX8_stand 56 = .ok (.iload_n 1, 1) := by decide +kernel
theorem dX8_stand_57 : decode cX8_stand 57 = .ok (.invokevirtual 123, 3) := by decide +kernel
theorem dX8_stand_60 : decode cX8_stand 60 = .ok (.ireturn, 1) := by decide +kernel
theorem dX8_theft_0 : decode cX8_theft 0 = .ok (.aload_n 0, 1) := by decide +kernel
theorem dX8_theft_1 : decode cX8_theft 1 = .ok (.iload_n 1, 1) := by decide +kernel
theorem dX8_theft_2 : decode cX8_theft 2 = .ok (.invokevirtual 144, 3) := by decide +kernel
theorem dX8_theft_5 : decode cX8_theft 5 = .ok (.ifCond .eq 12, 3) := by decide +kernel
theorem dX8_theft_8 : decode cX8_theft 8 = .ok (.aload_n 0, 1) := by decide +kernel
theorem dX8_theft_9 : decode cX8_theft 9 = .ok (.iload_n 2, 1) := by decide +kernel
theorem dX8_theft_10 : decode cX8_theft 10 = .ok (.iload_n 3, 1) := by decide +kernel
theorem dX8_theft_11 : decode cX8_theft 11 = .ok (.invokevirtual 275, 3) := by decide +kernel
theorem dX8_theft_14 : decode cX8_theft 14 = .ok (.ifCond .ne 9, 3) := by decide +kernel
theorem dX8_theft_17 : decode cX8_theft 17 = .ok (.aload_n 0, 1) := by decide +kernel
theorem dX8_theft_18 : decode cX8_theft 18 = .ok (.iconst 1, 1) := by decide +kernel
theorem dX8_theft_19 : decode cX8_theft 19 = .ok (.invokevirtual 97, 3) := by decide +kernel
theorem dX8_theft_22 : decode cX8_theft 22 = .ok (.ireturn, 1) := by decide +kernel
theorem dX8_theft_23 : decode cX8_theft 23 = .ok (.iload 4, 2) := by decide +kernel
theorem dX8_theft_25 : decode cX8_theft 25 = .ok (.ifCond .lt 10, 3) := by decide +kernel
theorem dX8_theft_28 : decode cX8_theft 28 = .ok (.iload 4, 2) := by decide +kernel
theorem dX8_theft_30 : decode cX8_theft 30 = .ok (.bipush 99, 2) := by decide +kernel
theorem dX8_theft_32 : decode cX8_theft 32 = .ok (.if_icmp .le 9, 3) := by decide +kernel
theorem dX8_theft_35 : decode cX8_theft 35 = .ok (.aload_n 0, 1) := by decide +kernel
theorem dX8_theft_36 : decode cX8_theft 36 = .ok (.iconst 2, 1) := by decide +kernel
theorem dX8_theft_37 : decode cX8_theft 37 = .ok (.invokevirtual 97, 3) := by decide +kernel
theorem dX8_theft_40 : decode cX8_theft 40 = .ok (.ireturn, 1) := by decide +kernel
theorem dX8_theft_41 : decode cX8_theft 41 = .ok (.iload 5, 2) := by decide +kernel
theorem dX8_theft_43 : decode cX8_theft 43 = .ok (.ifCond .eq 20, 3) := by decide +kernel
theorem dX8_theft_46 : decode cX8_theft 46 = .ok (.aload_n 0, 1) := by decide +kernel
theorem dX8_theft_47 : decode cX8_theft 47 = .ok (.getfield 16, 3) := by decide +kernel
theorem dX8_theft_50 : decode cX8_theft 50 = .ok (.iload_n 1, 1) := by decide +kernel
theorem dX8_theft_51 : decode cX8_theft 51 = .ok (.invokevirtual 162, 3) := by decide +kernel
theorem dX8_theft_54 : decode cX8_theft 54 = .ok (.ifCond .ne 9, 3) := by decide +kernel
theorem dX8_theft_57 : decode cX8_theft 57 = .ok (.aload_n 0, 1) := by decide +kernel
theorem dX8_theft_58 : decode cX8_theft 58 = .ok (.iconst 5, 1) := by decide +kernel
theorem dX8_theft_59 : decode cX8_theft 59 = .ok (.invokevirtual 97, 3) := by decide +kernel
theorem dX8_theft_62 : decode cX8_theft 62 = .ok (.ireturn, 1) := by decide +kernel
theorem dX8_theft_63 : decode cX8_theft 63 = .ok (.aload_n 0, 1) := by decide +kernel
theorem dX8_theft_64 : decode cX8_theft 64 = .ok (.aload_n 0, 1) := by decide +kernel
theorem dX8_theft_65 : decode cX8_theft 65 = .ok (.getfield 78, 3) := by decide +kernel
theorem dX8_theft_68 : decode cX8_theft 68 = .ok (.aload_n 0, 1) := by decide +kernel
theorem dX8_theft_69 : decode cX8_theft 69 = .ok (.getfield 16, 3) := by decide +kernel
theorem dX8_theft_72 : decode cX8_theft 72 = .ok (.aload_n 0, 1) := by decide +kernel
theorem dX8_theft_73 : decode cX8_theft 73 = .ok (.getfield 16, 3) := by decide +kernel
theorem dX8_theft_76 : decode cX8_theft 76 = .ok (.iload_n 1, 1) := by decide +kernel
theorem dX8_theft_77 : decode cX8_theft 77 = .ok (.iload 5, 2) := by decide +kernel
theorem dX8_theft_79 : decode cX8_theft 79 = .ok (.invokevirtual 165, 3) := by decide +kernel
theorem dX8_theft_82 : decode cX8_theft 82 = .ok (.iload_n 2, 1) := by decide +kernel
theorem dX8_theft_83 : decode cX8_theft 83 = .ok (.bipush 12, 2) := by decide +kernel
theorem dX8_theft_85 : decode cX8_theft 85 = .ok (.imul, 1) := by decide +kernel
theorem dX8_theft_86 : decode cX8_theft 86 = .ok (.iload_n 3, 1) := by decide +kernel
theorem dX8_theft_87 : decode cX8_theft 87 = .ok (.iadd, 1) := by decide +kernel
theorem dX8_theft_88 : decode cX8_theft 88 = .ok (.iload 4, 2) := by decide +kernel
theorem dX8_theft_90 : decode cX8_theft 90 = .ok (.invokevirtual 278, 3) := by decide +kernel
theorem dX8_theft_93 : decode cX8_theft 93 = .ok (.invokevirtual 123, 3) := by decide +kernel
theorem dX8_theft_96 : decode cX8_theft 96 = .ok (.ireturn, 1) := by decide +kernel
theorem dX8_tolls_0 : decode cX8_tolls 0 = .ok (.aload_n 0, 1) := by decide +kernel
theorem dX8_tolls_1 : decode cX8_tolls 1 = .ok (.iload_n 1, 1) := by decide +kernel
theorem dX8_tolls_2 : decode cX8_tolls 2 = .ok (.invokevirtual 129, 3) := by decide +kernel
theorem dX8_tolls_5 : decode cX8_tolls 5 = .ok (.ifCond .ne 9, 3) := by decide +kernel
theorem dX8_tolls_8 : decode cX8_tolls 8 = .ok (.aload_n 0, 1) := by decide +kernel
theorem dX8_tolls_9 : decode cX8_tolls 9 = .ok (.iconst 1, 1) := by decide +kernel
theorem dX8_tolls_10 : decode cX8_tolls 10 = .ok (.invokevirtual 97, 3) := by decide +kernel
theorem dX8_tolls_13 : decode cX8_tolls 13 = .ok (.ireturn, 1) := by decide +kernel
theorem dX8_tolls_14 : decode cX8_tolls 14 = .ok (.aload_n 0, 1) := by decide +kernel
theorem dX8_tolls_15 : decode cX8_tolls 15 = .ok (.aload_n 0, 1) := by decide +kernel
theorem dX8_tolls_16 : decode cX8_tolls 16 = .ok (.getfield 60, 3) := by decide +kernel
theorem dX8_tolls_19 : decode cX8_tolls 19 = .ok (.getfield 238, 3) := by decide +kernel
theorem dX8_tolls_22 : decode cX8_tolls 22 = .ok (.iload_n 1, 1) := by decide +kernel
theorem dX8_tolls_23 : decode cX8_tolls 23 = .ok (.iaload, 1) := by decide +kernel
theorem dX8_tolls_24 : decode cX8_tolls 24 = .ok (.invokevirtual 123, 3) := by decide +kernel
theorem dX8_tolls_27 : decode cX8_tolls 27 = .ok (.ireturn, 1) := by decide +kernel
theorem dX8_trouble_0 : decode cX8_trouble 0 = .ok (.aload_n 0, 1) := by decide +kernel
theorem dX8_trouble_1 : decode cX8_trouble 1 = .ok (.getfield 126, 3) := by decide +kernel
theorem dX8_trouble_4 : decode cX8_trouble 4 = .ok (.ireturn, 1) := by decide +kernel
theorem dX8_undo_0 : decode cX8_undo 0 = .ok (.aload_n 0, 1) := by decide +kernel
theorem dX8_undo_1 : decode cX8_undo 1 = .ok (.getfield 71, 3) := by decide +kernel
theorem dX8_undo_4 : decode cX8_undo 4 = .ok (.getfield 114, 3) := by decide +kernel
theorem dX8_undo_7 : decode cX8_undo 7 = .ok (.ifCond .ne 10, 3) := by decide +kernel
theorem dX8_undo_10 : decode cX8_undo 10 = .ok (.aload_n 0, 1) := by decide +kernel
theorem dX8_undo_11 : decode cX8_undo 11 = .ok (.bipush 6, 2) := by decide +kernel
theorem dX8_undo_13 : decode cX8_undo 13 = .ok (.invokevirtual 216, 3) := by decide +kernel
theorem dX8_undo_16 : decode cX8_undo 16 = .ok (.ireturn, 1) := by decide +kernel
theorem dX8_undo_17 : decode cX8_undo 17 = .ok (.aload_n 0, 1) := by decide +kernel
theorem dX8_undo_18 : decode cX8_undo 18 = .ok (.getfield 71, 3) := by decide +kernel
theorem dX8_undo_21 : decode cX8_undo 21 = .ok (.aload_n 0, 1) := by decide +kernel
theorem dX8_undo_22 : decode cX8_undo 22 = .ok (.getfield 16, 3) := by decide +kernel
theorem dX8_undo_25 : decode cX8_undo 25 = .ok (.invokevirtual 290, 3) := by decide +kernel
theorem dX8_undo_28 : decode cX8_undo 28 = .ok (.aload_n 0, 1) := by decide +kernel
theorem dX8_undo_29 : decode cX8_undo 29 = .ok (.invokevirtual 117, 3) := by decide +kernel
theorem dX8_undo_32 : decode cX8_undo 32 = .ok (.aload_n 0, 1) := by decide +kernel
theorem dX8_undo_33 : decode cX8_undo 33 = .ok (.invokevirtual 222, 3) := by decide +kernel
theorem dX8_undo_36 : decode cX8_undo 36 = .ok (.ireturn, 1) := by decide +kernel
theorem dX8_upwards_0 : decode cX8_upwards 0 = .ok (.iload_n 1, 1) := by decide +kernel
theorem dX8_upwards_1 : decode cX8_upwards 1 = .ok (.iconst 1, 1) := by decide +kernel
theorem dX8_upwards_2 : decode cX8_upwards 2 = .ok (.if_icmp .gt 7, 3) := by decide +kernel
theorem dX8_upwards_5 : decode cX8_upwards 5 = .ok (.iload_n 0, 1) := by decide +kernel
theorem dX8_upwards_6 : decode cX8_upwards 6 = .ok (.goto 10, 3) := by decide +kernel
theorem dX8_upwards_9 : decode cX8_upwards 9 = .ok (.iload_n 0, 1) := by decide +kernel
theorem dX8_upwards_10 : decode cX8_upwards 10 = .ok (.iload_n 1, 1) := by decide +kernel
theorem dX8_upwards_11 : decode cX8_upwards 11 = .ok (.iadd, 1) := by decide +kernel
theorem dX8_upwards_12 : decode cX8_upwards 12 = .ok (.iconst 1, 1) := by decide +kernel
theorem dX8_upwards_13 : decode cX8_upwards 13 = .ok (.isub, 1) := by decide +kernel
theorem dX8_upwards_14 : decode cX8_upwards 14 = .ok (.iload_n 1, 1) := by decide +kernel
theorem dX8_upwards_15 : decode cX8_upwards 15 = .ok (.idiv, 1) := by decide +kernel
theorem dX8_upwards_16 : decode cX8_upwards 16 = .ok (.ireturn, 1) := by decide +kernel
theorem dX8_waited_0 : decode cX8_waited 0 = .ok (.aload_n 0, 1) := by decide +kernel
theorem dX8_waited_1 : decode cX8_waited 1 = .ok (.invokevirtual 202, 3) := by decide +kernel
theorem dX8_waited_4 : decode cX8_waited 4 = .ok (.ifCond .ne 9, 3) := by decide +kernel
theorem dX8_waited_7 : decode cX8_waited 7 = .ok (.aload_n 0, 1) := by decide +kernel
theorem dX8_waited_8 : decode cX8_waited 8 = .ok (.iconst 1, 1) := by decide +kernel
theorem dX8_waited_9 : decode cX8_waited 9 = .ok (.invokevirtual 97, 3) := by decide +kernel
theorem dX8_waited_12 : decode cX8_waited 12 = .ok (.ireturn, 1) := by decide +kernel
theorem dX8_waited_13 : decode cX8_waited 13 = .ok (.aload_n 0, 1) := by decide +kernel
theorem dX8_waited_14 : decode cX8_waited 14 = .ok (.aload_n 0, 1) := by decide +kernel
theorem dX8_waited_15 : decode cX8_waited 15 = .ok (.getfield 60, 3) := by decide +kernel
theorem dX8_waited_18 : decode cX8_waited 18 = .ok (.invokevirtual 244, 3) := by decide +kernel
theorem dX8_waited_21 : decode cX8_waited 21 = .ok (.invokevirtual 123, 3) := by decide +kernel
theorem dX8_waited_24 : decode cX8_waited 24 = .ok (.ireturn, 1) := by decide +kernel
theorem dX8_where_0 : decode cX8_where 0 = .ok (.aload_n 0, 1) := by decide +kernel
theorem dX8_where_1 : decode cX8_where 1 = .ok (.getfield 126, 3) := by decide +kernel
theorem dX8_where_4 : decode cX8_where 4 = .ok (.iconst 4, 1) := by decide +kernel
theorem dX8_where_5 : decode cX8_where 5 = .ok (.if_icmp .ne 10, 3) := by decide +kernel
theorem dX8_where_8 : decode cX8_where 8 = .ok (.aload_n 0, 1) := by decide +kernel
theorem dX8_where_9 : decode cX8_where 9 = .ok (.getfield 111, 3) := by decide +kernel
theorem dX8_where_12 : decode cX8_where 12 = .ok (.goto 4, 3) := by decide +kernel
theorem dX8_where_15 : decode cX8_where 15 = .ok (.iconst (-1), 1) := by decide +kernel
theorem dX8_where_16 : decode cX8_where 16 = .ok (.ireturn, 1) := by decide +kernel
theorem dX8_widen_0 : decode cX8_widen 0 = .ok (.aload_n 0, 1) := by decide +kernel
theorem dX8_widen_1 : decode cX8_widen 1 = .ok (.iload_n 1, 1) := by decide +kernel
theorem dX8_widen_2 : decode cX8_widen 2 = .ok (.invokevirtual 129, 3) := by decide +kernel
theorem dX8_widen_5 : decode cX8_widen 5 = .ok (.ifCond .ne 9, 3) := by decide +kernel
theorem dX8_widen_8 : decode cX8_widen 8 = .ok (.aload_n 0, 1) := by decide +kernel
theorem dX8_widen_9 : decode cX8_widen 9 = .ok (.iconst 1, 1) := by decide +kernel
theorem dX8_widen_10 : decode cX8_widen 10 = .ok (.invokevirtual 216, 3) := by decide +kernel
theorem dX8_widen_13 : decode cX8_widen 13 = .ok (.ireturn, 1) := by decide +kernel
theorem dX8_widen_14 : decode cX8_widen 14 = .ok (.iload_n 2, 1) := by decide +kernel
theorem dX8_widen_15 : decode cX8_widen 15 = .ok (.invokestatic 254, 3) := by decide +kernel
theorem dX8_widen_18 : decode cX8_widen 18 = .ok (.ifCond .eq 10, 3) := by decide +kernel
theorem dX8_widen_21 : decode cX8_widen 21 = .ok (.iload_n 3, 1) := by decide +kernel
theorem dX8_widen_22 : decode cX8_widen 22 = .ok (.invokestatic 254, 3) := by decide +kernel
theorem dX8_widen_25 : decode cX8_widen 25 = .ok (.ifCond .ne 9, 3) := by decide +kernel
theorem dX8_widen_28 : decode cX8_widen 28 = .ok (.aload_n 0, 1) := by decide +kernel
theorem dX8_widen_29 : decode cX8_widen 29 = .ok (.iconst 2, 1) := by decide +kernel
theorem dX8_widen_30 : decode cX8_widen 30 = .ok (.invokevirtual 216, 3) := by decide +kernel
theorem dX8_widen_33 : decode cX8_widen 33 = .ok (.ireturn, 1) := by decide +kernel
theorem dX8_widen_34 : decode cX8_widen 34 = .ok (.aload_n 0, 1) := by decide +kernel
theorem dX8_widen_35 : decode cX8_widen 35 = .ok (.getfield 16, 3) := by decide +kernel
theorem dX8_widen_38 : decode cX8_widen 38 = .ok (.getfield 137, 3) := by decide +kernel
theorem dX8_widen_41 : decode cX8_widen 41 = .ok (.iload_n 1, 1) := by decide +kernel
theorem dX8_widen_42 : decode cX8_widen 42 = .ok (.aaload, 1) := by decide +kernel
theorem dX8_widen_43 : decode cX8_widen 43 = .ok (.astore 4, 2) := by decide +kernel
theorem dX8_widen_45 : decode cX8_widen 45 = .ok (.iload_n 2, 1) := by decide +kernel
theorem dX8_widen_46 : decode cX8_widen 46 = .ok (.aload 4, 2) := by decide +kernel
theorem dX8_widen_48 : decode cX8_widen 48 = .ok (.iconst 2, 1) := by decide +kernel
theorem dX8_widen_49 : decode cX8_widen 49 = .ok (.iaload, 1) := by decide +kernel
theorem dX8_widen_50 : decode cX8_widen 50 = .ok (.if_icmp .gt 11, 3) := by decide +kernel
theorem dX8_widen_53 : decode cX8_widen 53 = .ok (.iload_n 3, 1) := by decide +kernel
theorem dX8_widen_54 : decode cX8_widen 54 = .ok (.aload 4, 2) := by decide +kernel
theorem dX8_widen_56 : decode cX8_widen 56 = .ok (.iconst 3, 1) := by decide +kernel
theorem dX8_widen_57 : decode cX8_widen 57 = .ok (.iaload, 1) := by decide +kernel
theorem dX8_widen_58 : decode cX8_widen 58 = .ok (.if_icmp .le 7, 3) := by decide +kernel
theorem dX8_widen_61 : decode cX8_widen 61 = .ok (.iconst 1, 1) := by decide +kernel
theorem dX8_widen_62 : decode cX8_widen 62 = .ok (.goto 4, 3) := by decide +kernel
theorem dX8_widen_65 : decode cX8_widen 65 = .ok (.iconst 0, 1) := by decide +kernel
theorem dX8_widen_66 : decode cX8_widen 66 = .ok (.istore 5, 2) := by decide +kernel
theorem dX8_widen_68 : decode cX8_widen 68 = .ok (.iload 5, 2) := by decide +kernel
theorem dX8_widen_70 : decode cX8_widen 70 = .ok (.ifCond .eq 11, 3) := by decide +kernel
theorem dX8_widen_73 : decode cX8_widen 73 = .ok (.aload 4, 2) := by decide +kernel
theorem dX8_widen_75 : decode cX8_widen 75 = .ok (.bipush 6, 2) := by decide +kernel
theorem dX8_widen_77 : decode cX8_widen 77 = .ok (.iaload, 1) := by decide +kernel
theorem dX8_widen_78 : decode cX8_widen 78 = .ok (.ifCond .eq 9, 3) := by decide +kernel
theorem dX8_widen_81 : decode cX8_widen 81 = .ok (.aload_n 0, 1) := by decide +kernel
theorem dX8_widen_82 : decode cX8_widen 82 = .ok (.iconst 5, 1) := by decide +kernel
theorem dX8_widen_83 : decode cX8_widen 83 = .ok (.invokevirtual 216, 3) := by decide +kernel
theorem dX8_widen_86 : decode cX8_widen 86 = .ok (.ireturn, 1) := by decide +kernel
theorem dX8_widen_87 : decode cX8_widen 87 = .ok (.aload_n 0, 1) := by decide +kernel
theorem dX8_widen_88 : decode cX8_widen 88 = .ok (.getfield 71, 3) := by decide +kernel
theorem dX8_widen_91 : decode cX8_widen 91 = .ok (.aload_n 0, 1) := by decide +kernel
theorem dX8_widen_92 : decode cX8_widen 92 = .ok (.getfield 16, 3) := by decide +kernel
theorem dX8_widen_95 : decode cX8_widen 95 = .ok (.iload_n 1, 1) := by decide +kernel
theorem dX8_widen_96 : decode cX8_widen 96 = .ok (.invokevirtual 282, 3) := by decide +kernel
theorem dX8_widen_99 : decode cX8_widen 99 = .ok (.aload 4, 2) := by decide +kernel
theorem dX8_widen_101 : decode cX8_widen 101 = .ok (.iload_n 2, 1) := by decide +kernel
theorem dX8_widen_102 : decode cX8_widen 102 = .ok (.iload_n 3, 1) := by decide +kernel
theorem dX8_widen_103 : decode cX8_widen 103 = .ok (.invokestatic 286, 3) := by decide +kernel
theorem dX8_widen_106 : decode cX8_widen 106 = .ok (.aload_n 0, 1) := by decide +kernel
theorem dX8_widen_107 : decode cX8_widen 107 = .ok (.invokevirtual 117, 3) := by decide +kernel
theorem dX8_widen_110 : decode cX8_widen 110 = .ok (.aload_n 0, 1) := by decide +kernel
theorem dX8_widen_111 : decode cX8_widen 111 = .ok (.invokevirtual 222, 3) := by decide +kernel
theorem dX8_widen_114 : decode cX8_widen 114 = .ok (.ireturn, 1) := by decide +kernel
theorem dX8_within_0 : decode cX8_within 0 = .ok (.iload_n 0, 1) := by decide +kernel
theorem dX8_within_1 : decode cX8_within 1 = .ok (.ifCond .lt 12, 3) := by decide +kernel
theorem dX8_within_4 : decode cX8_within 4 = .ok (.iload_n 0, 1) := by decide +kernel
theorem dX8_within_5 : decode cX8_within 5 = .ok (.iload_n 1, 1) := by decide +kernel
theorem dX8_within_6 : decode cX8_within 6 = .ok (.if_icmp .ge 7, 3) := by decide +kernel
theorem dX8_within_9 : decode cX8_within 9 = .ok (.iconst 1, 1) := by decide +kernel
theorem dX8_within_10 : decode cX8_within 10 = .ok (.goto 4, 3) := by decide +kernel
theorem dX8_within_13 : decode cX8_within 13 = .ok (.iconst 0, 1) := by decide +kernel
theorem dX8_within_14 : decode cX8_within 14 = .ok (.ireturn, 1) := by decide +kernel
theorem dX8_worked_0 : decode cX8_worked 0 = .ok (.aload_n 0, 1) := by decide +kernel
theorem dX8_worked_1 : decode cX8_worked 1 = .ok (.iload_n 1, 1) := by decide +kernel
theorem dX8_worked_2 : decode cX8_worked 2 = .ok (.invokevirtual 129, 3) := by decide +kernel
theorem dX8_worked_5 : decode cX8_worked 5 = .ok (.ifCond .ne 9, 3) := by decide +kernel
theorem dX8_worked_8 : decode cX8_worked 8 = .ok (.aload_n 0, 1) := by decide +kernel
theorem dX8_worked_9 : decode cX8_worked 9 = .ok (.iconst 1, 1) := by decide +kernel
theorem dX8_worked_10 : decode cX8_worked 10 = .ok (.invokevirtual 97, 3) := by decide +kernel
theorem dX8_worked_13 : decode cX8_worked 13 = .ok (.ireturn, 1) := by decide +kernel
theorem dX8_worked_14 : decode cX8_worked 14 = .ok (.aload_n 0, 1) := by decide +kernel
theorem dX8_worked_15 : decode cX8_worked 15 = .ok (.aload_n 0, 1) := by decide +kernel
theorem dX8_worked_16 : decode cX8_worked 16 = .ok (.getfield 60, 3) := by decide +kernel
theorem dX8_worked_19 : decode cX8_worked 19 = .ok (.getfield 241, 3) := by decide +kernel
theorem dX8_worked_22 : decode cX8_worked 22 = .ok (.iload_n 1, 1) := by decide +kernel
theorem dX8_worked_23 : decode cX8_worked 23 = .ok (.iaload, 1) := by decide +kernel
theorem dX8_worked_24 : decode cX8_worked 24 = .ok (.invokevirtual 123, 3) := by decide +kernel
theorem dX8_worked_27 : decode cX8_worked 27 = .ok (.ireturn, 1) := by decide +kernel
