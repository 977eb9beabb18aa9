theorem dX8_within_0 : decode cX8_within 0 = .ok (.iload_n 0, 1) := by decide +kernel
theorem dX8_within_1 : decode cX8_within 1 = .ok (.ifCond .lt 12, 3) := by decide +kernel
theorem dX8_within_4 : decode cX8_within 4 = .ok (.iload_n 0, 1) := by decide +kernel
theorem dX8_within_5 : decode cX8_within 5 = .ok (.iload_n 1, 1) := by decide +kernel
theorem dX8_within_6 : decode cX8_within 6 = .ok (.if_icmp .ge 7, 3) := by decide +kernel
theorem dX8_within_9 : decode cX8_within 9 = .ok (.iconst 1, 1) := by decide +kernel
theorem dX8_within_10 : decode cX8_within 10 = .ok (.goto 4, 3) := by decide +kernel
theorem dX8_within_13 : decode cX8_within 13 = .ok (.iconst 0, 1) := by decide +kernel
theorem dX8_within_14 : decode cX8_within 14 = .ok (.ireturn, 1) := by decide +kernel
theorem dX6_canLie_0 : decode cX6_canLie 0 = .ok (.iload_n 1, 1) := by decide +kernel
theorem dX6_canLie_1 : decode cX6_canLie 1 = .ok (.ifCond .eq 27, 3) := by decide +kernel
theorem dX6_canLie_4 : decode cX6_canLie 4 = .ok (.iload_n 1, 1) := by decide +kernel
theorem dX6_canLie_5 : decode cX6_canLie 5 = .ok (.iconst 1, 1) := by decide +kernel
theorem dX6_canLie_6 : decode cX6_canLie 6 = .ok (.if_icmp .ne 10, 3) := by decide +kernel
theorem dX6_canLie_9 : decode cX6_canLie 9 = .ok (.aload_n 0, 1) := by decide +kernel
theorem dX6_canLie_10 : decode cX6_canLie 10 = .ok (.getfield 19, 3) := by decide +kernel
theorem dX6_canLie_13 : decode cX6_canLie 13 = .ok (.ifCond .ne 15, 3) := by decide +kernel
theorem dX6_canLie_16 : decode cX6_canLie 16 = .ok (.iload_n 1, 1) := by decide +kernel
theorem dX6_canLie_17 : decode cX6_canLie 17 = .ok (.iconst 2, 1) := by decide +kernel
theorem dX6_canLie_18 : decode cX6_canLie 18 = .ok (.if_icmp .ne 14, 3) := by decide +kernel
theorem dX6_canLie_21 : decode cX6_canLie 21 = .ok (.aload_n 0, 1) := by decide +kernel
theorem dX6_canLie_22 : decode cX6_canLie 22 = .ok (.getfield 23, 3) := by decide +kernel
theorem dX6_canLie_25 : decode cX6_canLie 25 = .ok (.ifCond .eq 7, 3) := by decide +kernel
theorem dX6_canLie_28 : decode cX6_canLie 28 = .ok (.iconst 1, 1) := by decide +kernel
theorem dX6_canLie_29 : decode cX6_canLie 29 = .ok (.goto 4, 3) := by decide +kernel
theorem dX6_canLie_32 : decode cX6_canLie 32 = .ok (.iconst 0, 1) := by decide +kernel
theorem dX6_canLie_33 : decode cX6_canLie 33 = .ok (.ireturn, 1) := by decide +kernel
theorem dX6_narrowest_0 : decode cX6_narrowest 0 = .ok (.aload_n 0, 1) := by decide +kernel
theorem dX6_narrowest_1 : decode cX6_narrowest 1 = .ok (.getfield 19, 3) := by decide +kernel
theorem dX6_narrowest_4 : decode cX6_narrowest 4 = .ok (.ifCond .eq 27, 3) := by decide +kernel
theorem dX6_narrowest_7 : decode cX6_narrowest 7 = .ok (.aload_n 0, 1) := by decide +kernel
theorem dX6_narrowest_8 : decode cX6_narrowest 8 = .ok (.getfield 13, 3) := by decide +kernel
theorem dX6_narrowest_11 : decode cX6_narrowest 11 = .ok (.iconst 1, 1) := by decide +kernel
theorem dX6_narrowest_12 : decode cX6_narrowest 12 = .ok (.iaload, 1) := by decide +kernel
theorem dX6_narrowest_13 : decode cX6_narrowest 13 = .ok (.aload_n 0, 1) := by decide +kernel
theorem dX6_narrowest_14 : decode cX6_narrowest 14 = .ok (.getfield 13, 3) := by decide +kernel
theorem dX6_narrowest_17 : decode cX6_narrowest 17 = .ok (.iconst 0, 1) := by decide +kernel
theorem dX6_narrowest_18 : decode cX6_narrowest 18 = .ok (.iaload, 1) := by decide +kernel
theorem dX6_narrowest_19 : decode cX6_narrowest 19 = .ok (.if_icmp .ge 12, 3) := by decide +kernel
theorem dX6_narrowest_22 : decode cX6_narrowest 22 = .ok (.aload_n 0, 1) := by decide +kernel
theorem dX6_narrowest_23 : decode cX6_narrowest 23 = .ok (.getfield 13, 3) := by decide +kernel
theorem dX6_narrowest_26 : decode cX6_narrowest 26 = .ok (.iconst 1, 1) := by decide +kernel
theorem dX6_narrowest_27 : decode cX6_narrowest 27 = .ok (.iaload, 1) := by decide +kernel
theorem dX6_narrowest_28 : decode cX6_narrowest 28 = .ok (.goto 9, 3) := by decide +kernel
theorem dX6_narrowest_31 : decode cX6_narrowest 31 = .ok (.aload_n 0, 1) := by decide +kernel
theorem dX6_narrowest_32 : decode cX6_narrowest 32 = .ok (.getfield 13, 3) := by decide +kernel
theorem dX6_narrowest_35 : decode cX6_narrowest 35 = .ok (.iconst 0, 1) := by decide +kernel
theorem dX6_narrowest_36 : decode cX6_narrowest 36 = .ok (.iaload, 1) := by decide +kernel
theorem dX6_narrowest_37 : decode cX6_narrowest 37 = .ok (.ireturn, 1) := by decide +kernel
theorem dX1_meets_0 : decode cX1_meets 0 = .ok (.aload_n 0, 1) := by decide +kernel
theorem dX1_meets_1 : decode cX1_meets 1 = .ok (.getfield 17, 3) := by decide +kernel
theorem dX1_meets_4 : decode cX1_meets 4 = .ok (.iload_n 3, 1) := by decide +kernel
theorem dX1_meets_5 : decode cX1_meets 5 = .ok (.aaload, 1) := by decide +kernel
theorem dX1_meets_6 : decode cX1_meets 6 = .ok (.astore 4, 2) := by decide +kernel
theorem dX1_meets_8 : decode cX1_meets 8 = .ok (.aload_n 0, 1) := by decide +kernel
theorem dX1_meets_9 : decode cX1_meets 9 = .ok (.getfield 11, 3) := by decide +kernel
theorem dX1_meets_12 : decode cX1_meets 12 = .ok (.aload 4, 2) := by decide +kernel
theorem dX1_meets_14 : decode cX1_meets 14 = .ok (.iconst 0, 1) := by decide +kernel
theorem dX1_meets_15 : decode cX1_meets 15 = .ok (.iaload, 1) := by decide +kernel
theorem dX1_meets_16 : decode cX1_meets 16 = .ok (.iaload, 1) := by decide +kernel
theorem dX1_meets_17 : decode cX1_meets 17 = .ok (.istore 5, 2) := by decide +kernel
theorem dX1_meets_19 : decode cX1_meets 19 = .ok (.aload_n 0, 1) := by decide +kernel
theorem dX1_meets_20 : decode cX1_meets 20 = .ok (.getfield 11, 3) := by decide +kernel
theorem dX1_meets_23 : decode cX1_meets 23 = .ok (.aload 4, 2) := by decide +kernel
theorem dX1_meets_25 : decode cX1_meets 25 = .ok (.iconst 0, 1) := by decide +kernel
theorem dX1_meets_26 : decode cX1_meets 26 = .ok (.iaload, 1) := by decide +kernel
theorem dX1_meets_27 : decode cX1_meets 27 = .ok (.iconst 1, 1) := by decide +kernel
theorem dX1_meets_28 : decode cX1_meets 28 = .ok (.iadd, 1) := by decide +kernel
theorem dX1_meets_29 : decode cX1_meets 29 = .ok (.iaload, 1) := by decide +kernel
theorem dX1_meets_30 : decode cX1_meets 30 = .ok (.istore 6, 2) := by decide +kernel
theorem dX1_meets_32 : decode cX1_meets 32 = .ok (.aload_n 1, 1) := by decide +kernel
theorem dX1_meets_33 : decode cX1_meets 33 = .ok (.getfield 64, 3) := by decide +kernel
theorem dX1_meets_36 : decode cX1_meets 36 = .ok (.iload_n 2, 1) := by decide +kernel
theorem dX1_meets_37 : decode cX1_meets 37 = .ok (.iaload, 1) := by decide +kernel
theorem dX1_meets_38 : decode cX1_meets 38 = .ok (.istore 7, 2) := by decide +kernel
theorem dX1_meets_40 : decode cX1_meets 40 = .ok (.aload_n 1, 1) := by decide +kernel
theorem dX1_meets_41 : decode cX1_meets 41 = .ok (.getfield 78, 3) := by decide +kernel
theorem dX1_meets_44 : decode cX1_meets 44 = .ok (.iload_n 2, 1) := by decide +kernel
theorem dX1_meets_45 : decode cX1_meets 45 = .ok (.iaload, 1) := by decide +kernel
theorem dX1_meets_46 : decode cX1_meets 46 = .ok (.iload 7, 2) := by decide +kernel
theorem dX1_meets_48 : decode cX1_meets 48 = .ok (.iadd, 1) := by decide +kernel
theorem dX1_meets_49 : decode cX1_meets 49 = .ok (.istore 8, 2) := by decide +kernel
theorem dX1_meets_51 : decode cX1_meets 51 = .ok (.iload 7, 2) := by decide +kernel
theorem dX1_meets_53 : decode cX1_meets 53 = .ok (.iload 5, 2) := by decide +kernel
theorem dX1_meets_55 : decode cX1_meets 55 = .ok (.if_icmp .le 5, 3) := by decide +kernel
theorem dX1_meets_58 : decode cX1_meets 58 = .ok (.iconst 1, 1) := by decide +kernel
theorem dX1_meets_59 : decode cX1_meets 59 = .ok (.ireturn, 1) := by decide +kernel
theorem dX1_meets_60 : decode cX1_meets 60 = .ok (.iload 7, 2) := by decide +kernel
theorem dX1_meets_62 : decode cX1_meets 62 = .ok (.aload 4, 2) := by decide +kernel
theorem dX1_meets_64 : decode cX1_meets 64 = .ok (.iconst 2, 1) := by decide +kernel
theorem dX1_meets_65 : decode cX1_meets 65 = .ok (.iaload, 1) := by decide +kernel
theorem dX1_meets_66 : decode cX1_meets 66 = .ok (.if_icmp .le 5, 3) := by decide +kernel
theorem dX1_meets_69 : decode cX1_meets 69 = .ok (.iconst 2, 1) := by decide +kernel
theorem dX1_meets_70 : decode cX1_meets 70 = .ok (.ireturn, 1) := by decide +kernel
theorem dX1_meets_71 : decode cX1_meets 71 = .ok (.aload_n 1, 1) := by decide +kernel
theorem dX1_meets_72 : decode cX1_meets 72 = .ok (.getfield 81, 3) := by decide +kernel
theorem dX1_meets_75 : decode cX1_meets 75 = .ok (.iload_n 2, 1) := by decide +kernel
theorem dX1_meets_76 : decode cX1_meets 76 = .ok (.iaload, 1) := by decide +kernel
theorem dX1_meets_77 : decode cX1_meets 77 = .ok (.aload 4, 2) := by decide +kernel
theorem dX1_meets_79 : decode cX1_meets 79 = .ok (.iconst 3, 1) := by decide +kernel
theorem dX1_meets_80 : decode cX1_meets 80 = .ok (.iaload, 1) := by decide +kernel
theorem dX1_meets_81 : decode cX1_meets 81 = .ok (.if_icmp .le 5, 3) := by decide +kernel
theorem dX1_meets_84 : decode cX1_meets 84 = .ok (.iconst 3, 1) := by decide +kernel
theorem dX1_meets_85 : decode cX1_meets 85 = .ok (.ireturn, 1) := by decide +kernel
theorem dX1_meets_86 : decode cX1_meets 86 = .ok (.iload 7, 2) := by decide +kernel
theorem dX1_meets_88 : decode cX1_meets 88 = .ok (.iload 6, 2) := by decide +kernel
theorem dX1_meets_90 : decode cX1_meets 90 = .ok (.if_icmp .le 5, 3) := by decide +kernel
theorem dX1_meets_93 : decode cX1_meets 93 = .ok (.iconst 4, 1) := by decide +kernel
theorem dX1_meets_94 : decode cX1_meets 94 = .ok (.ireturn, 1) := by decide +kernel
theorem dX1_meets_95 : decode cX1_meets 95 = .ok (.iload 8, 2) := by decide +kernel
theorem dX1_meets_97 : decode cX1_meets 97 = .ok (.iload 5, 2) := by decide +kernel
theorem dX1_meets_99 : decode cX1_meets 99 = .ok (.aload 4, 2) := by decide +kernel
theorem dX1_meets_101 : decode cX1_meets 101 = .ok (.iconst 2, 1) := by decide +kernel
theorem dX1_meets_102 : decode cX1_meets 102 = .ok (.iaload, 1) := by decide +kernel
theorem dX1_meets_103 : decode cX1_meets 103 = .ok (.iadd, 1) := by decide +kernel
theorem dX1_meets_104 : decode cX1_meets 104 = .ok (.if_icmp .le 5, 3) := by decide +kernel
theorem dX1_meets_107 : decode cX1_meets 107 = .ok (.iconst 5, 1) := by decide +kernel
theorem dX1_meets_108 : decode cX1_meets 108 = .ok (.ireturn, 1) := by decide +kernel
theorem dX1_meets_109 : decode cX1_meets 109 = .ok (.iload 8, 2) := by decide +kernel
theorem dX1_meets_111 : decode cX1_meets 111 = .ok (.iload 6, 2) := by decide +kernel
theorem dX1_meets_113 : decode cX1_meets 113 = .ok (.aload 4, 2) := by decide +kernel
theorem dX1_meets_115 : decode cX1_meets 115 = .ok (.iconst 2, 1) := by decide +kernel
theorem dX1_meets_116 : decode cX1_meets 116 = .ok (.iaload, 1) := by decide +kernel
theorem dX1_meets_117 : decode cX1_meets 117 = .ok (.iadd, 1) := by decide +kernel
theorem dX1_meets_118 : decode cX1_meets 118 = .ok (.if_icmp .le 8, 3) := by decide +kernel
theorem dX1_meets_121 : decode cX1_meets 121 = .ok (.bipush 6, 2) := by decide +kernel
theorem dX1_meets_123 : decode cX1_meets 123 = .ok (.goto 4, 3) := by decide +kernel
theorem dX1_meets_126 : decode cX1_meets 126 = .ok (.iconst 0, 1) := by decide +kernel
theorem dX1_meets_127 : decode cX1_meets 127 = .ok (.ireturn, 1) := by decide +kernel
theorem dJ9_min_7cf53_0 : decode cJ9_min_7cf53 0 = .ok (.iload_n 0, 1) := by decide +kernel
theorem dJ9_min_7cf53_1 : decode cJ9_min_7cf53 1 = .ok (.iload_n 1, 1) := by decide +kernel
theorem dJ9_min_7cf53_2 : decode cJ9_min_7cf53 2 = .ok (.if_icmp .gt 7, 3) := by decide +kernel
theorem dJ9_min_7cf53_5 : decode cJ9_min_7cf53 5 = .ok (.iload_n 0, 1) := by decide +kernel
theorem dJ9_min_7cf53_6 : decode cJ9_min_7cf53 6 = .ok (.goto 4, 3) := by decide +kernel
theorem dJ9_min_7cf53_9 : decode cJ9_min_7cf53 9 = .ok (.iload_n 1, 1) := by decide +kernel
theorem dJ9_min_7cf53_10 : decode cJ9_min_7cf53 10 = .ok (.ireturn, 1) := by decide +kernel
theorem dX1_barOf_0 : decode cX1_barOf 0 = .ok (.aload_n 0, 1) := by decide +kernel
theorem dX1_barOf_1 : decode cX1_barOf 1 = .ok (.aload_n 1, 1) := by decide +kernel
theorem dX1_barOf_2 : decode cX1_barOf 2 = .ok (.iconst 0, 1) := by decide +kernel
theorem dX1_barOf_3 : decode cX1_barOf 3 = .ok (.iload_n 2, 1) := by decide +kernel
theorem dX1_barOf_4 : decode cX1_barOf 4 = .ok (.invokevirtual 84, 3) := by decide +kernel
theorem dX1_barOf_7 : decode cX1_barOf 7 = .ok (.istore_n 3, 1) := by decide +kernel
theorem dX1_barOf_8 : decode cX1_barOf 8 = .ok (.iconst 1, 1) := by decide +kernel
theorem dX1_barOf_9 : decode cX1_barOf 9 = .ok (.istore 4, 2) := by decide +kernel
theorem dX1_barOf_11 : decode cX1_barOf 11 = .ok (.iload 4, 2) := by decide +kernel
theorem dX1_barOf_13 : decode cX1_barOf 13 = .ok (.iconst 3, 1) := by decide +kernel
theorem dX1_barOf_14 : decode cX1_barOf 14 = .ok (.if_icmp .ge 31, 3) := by decide +kernel
theorem dX1_barOf_17 : decode cX1_barOf 17 = .ok (.aload_n 1, 1) := by decide +kernel
theorem dX1_barOf_18 : decode cX1_barOf 18 = .ok (.iload 4, 2) := by decide +kernel
theorem dX1_barOf_20 : decode cX1_barOf 20 = .ok (.invokevirtual 88, 3) := by decide +kernel
theorem dX1_barOf_23 : decode cX1_barOf 23 = .ok (.ifCond .eq 16, 3) := by decide +kernel
theorem dX1_barOf_26 : decode cX1_barOf 26 = .ok (.iload_n 3, 1) := by decide +kernel
theorem dX1_barOf_27 : decode cX1_barOf 27 = .ok (.aload_n 0, 1) := by decide +kernel
theorem dX1_barOf_28 : decode cX1_barOf 28 = .ok (.aload_n 1, 1) := by decide +kernel
theorem dX1_barOf_29 : decode cX1_barOf 29 = .ok (.iload 4, 2) := by decide +kernel
theorem dX1_barOf_31 : decode cX1_barOf 31 = .ok (.iload_n 2, 1) := by decide +kernel
theorem dX1_barOf_32 : decode cX1_barOf 32 = .ok (.invokevirtual 84, 3) := by decide +kernel
theorem dX1_barOf_35 : decode cX1_barOf 35 = .ok (.invokestatic 92, 3) := by decide +kernel
theorem dX1_barOf_38 : decode cX1_barOf 38 = .ok (.istore_n 3, 1) := by decide +kernel
theorem dX1_barOf_39 : decode cX1_barOf 39 = .ok (.iinc 4 1, 3) := by decide +kernel
theorem dX1_barOf_42 : decode cX1_barOf 42 = .ok (.goto (-31), 3) := by decide +kernel
theorem dX1_barOf_45 : decode cX1_barOf 45 = .ok (.iload_n 3, 1) := by decide +kernel
theorem dX1_barOf_46 : decode cX1_barOf 46 = .ok (.ireturn, 1) := by decide +kernel
theorem dX1_letsThrough_0 : decode cX1_letsThrough 0 = .ok (.aload_n 0, 1) := by decide +kernel
theorem dX1_letsThrough_1 : decode cX1_letsThrough 1 = .ok (.getfield 17, 3) := by decide +kernel
theorem dX1_letsThrough_4 : decode cX1_letsThrough 4 = .ok (.iload_n 2, 1) := by decide +kernel
theorem dX1_letsThrough_5 : decode cX1_letsThrough 5 = .ok (.aaload, 1) := by decide +kernel
theorem dX1_letsThrough_6 : decode cX1_letsThrough 6 = .ok (.bipush 6, 2) := by decide +kernel
theorem dX1_letsThrough_8 : decode cX1_letsThrough 8 = .ok (.iaload, 1) := by decide +kernel
theorem dX1_letsThrough_9 : decode cX1_letsThrough 9 = .ok (.ifCond .ne 16, 3) := by decide +kernel
theorem dX1_letsThrough_12 : decode cX1_letsThrough 12 = .ok (.aload_n 0, 1) := by decide +kernel
theorem dX1_letsThrough_13 : decode cX1_letsThrough 13 = .ok (.aload_n 1, 1) := by decide +kernel
theorem dX1_letsThrough_14 : decode cX1_letsThrough 14 = .ok (.iload_n 2, 1) := by decide +kernel
theorem dX1_letsThrough_15 : decode cX1_letsThrough 15 = .ok (.invokevirtual 98, 3) := by decide +kernel
theorem dX1_letsThrough_18 : decode cX1_letsThrough 18 = .ok (.ifCond .ne 7, 3) := by decide +kernel
theorem dX1_letsThrough_21 : decode cX1_letsThrough 21 = .ok (.iconst 1, 1) := by decide +kernel
theorem dX1_letsThrough_22 : decode cX1_letsThrough 22 = .ok (.goto 4, 3) := by decide +kernel
theorem dX1_letsThrough_25 : decode cX1_letsThrough 25 = .ok (.iconst 0, 1) := by decide +kernel
theorem dX1_letsThrough_26 : decode cX1_letsThrough 26 = .ok (.ireturn, 1) := by decide +kernel
theorem dX1_someGateLets_0 : decode cX1_someGateLets 0 = .ok (.iconst 0, 1) := by decide +kernel
theorem dX1_someGateLets_1 : decode cX1_someGateLets 1 = .ok (.istore_n 3, 1) := by decide +kernel
theorem dX1_someGateLets_2 : decode cX1_someGateLets 2 = .ok (.iload_n 3, 1) := by decide +kernel
theorem dX1_someGateLets_3 : decode cX1_someGateLets 3 = .ok (.aload_n 0, 1) := by decide +kernel
theorem dX1_someGateLets_4 : decode cX1_someGateLets 4 = .ok (.getfield 43, 3) := by decide +kernel
theorem dX1_someGateLets_7 : decode cX1_someGateLets 7 = .ok (.if_icmp .ge 32, 3) := by decide +kernel
theorem dX1_someGateLets_10 : decode cX1_someGateLets 10 = .ok (.aload_n 0, 1) := by decide +kernel
theorem dX1_someGateLets_11 : decode cX1_someGateLets 11 = .ok (.getfield 17, 3) := by decide +kernel
theorem dX1_someGateLets_14 : decode cX1_someGateLets 14 = .ok (.iload_n 3, 1) := by decide +kernel
theorem dX1_someGateLets_15 : decode cX1_someGateLets 15 = .ok (.aaload, 1) := by decide +kernel
theorem dX1_someGateLets_16 : decode cX1_someGateLets 16 = .ok (.iconst 0, 1) := by decide +kernel
theorem dX1_someGateLets_17 : decode cX1_someGateLets 17 = .ok (.iaload, 1) := by decide +kernel
theorem dX1_someGateLets_18 : decode cX1_someGateLets 18 = .ok (.iload_n 2, 1) := by decide +kernel
theorem dX1_someGateLets_19 : decode cX1_someGateLets 19 = .ok (.if_icmp .ne 14, 3) := by decide +kernel
theorem dX1_someGateLets_22 : decode cX1_someGateLets 22 = .ok (.aload_n 0, 1) := by decide +kernel
theorem dX1_someGateLets_23 : decode cX1_someGateLets 23 = .ok (.aload_n 1, 1) := by decide +kernel
theorem dX1_someGateLets_24 : decode cX1_someGateLets 24 = .ok (.iload_n 3, 1) := by decide +kernel
theorem dX1_someGateLets_25 : decode cX1_someGateLets 25 = .ok (.invokevirtual 119, 3) := by decide +kernel
theorem dX1_someGateLets_28 : decode cX1_someGateLets 28 = .ok (.ifCond .eq 5, 3) := by decide +kernel
theorem dX1_someGateLets_31 : decode cX1_someGateLets 31 = .ok (.iconst 1, 1) := by decide +kernel
theorem dX1_someGateLets_32 : decode cX1_someGateLets 32 = .ok (.ireturn, 1) := by decide +kernel
theorem dX1_someGateLets_33 : decode cX1_someGateLets 33 = .ok (.iinc 3 1, 3) := by decide +kernel
theorem dX1_someGateLets_36 : decode cX1_someGateLets 36 = .ok (.goto (-34), 3) := by decide +kernel
theorem dX1_someGateLets_39 : decode cX1_someGateLets 39 = .ok (.iconst 0, 1) := by decide +kernel
theorem dX1_someGateLets_40 : decode cX1_someGateLets 40 = .ok (.ireturn, 1) := by decide +kernel
