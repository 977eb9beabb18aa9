theorem dX2_addLoad_0 : decode cX2_addLoad 0 = .ok (.aload_n 0, 1) := by decide +kernel
theorem dX2_addLoad_1 : decode cX2_addLoad 1 = .ok (.getfield 21, 3) := by decide +kernel
theorem dX2_addLoad_4 : decode cX2_addLoad 4 = .ok (.iconst 0, 1) := by decide +kernel
theorem dX2_addLoad_5 : decode cX2_addLoad 5 = .ok (.aaload, 1) := by decide +kernel
theorem dX2_addLoad_6 : decode cX2_addLoad 6 = .ok (.aload_n 0, 1) := by decide +kernel
theorem dX2_addLoad_7 : decode cX2_addLoad 7 = .ok (.getfield 46, 3) := by decide +kernel
theorem dX2_addLoad_10 : decode cX2_addLoad 10 = .ok (.iload_n 1, 1) := by decide +kernel
theorem dX2_addLoad_11 : decode cX2_addLoad 11 = .ok (.iastore, 1) := by decide +kernel
theorem dX2_addLoad_12 : decode cX2_addLoad 12 = .ok (.aload_n 0, 1) := by decide +kernel
theorem dX2_addLoad_13 : decode cX2_addLoad 13 = .ok (.getfield 21, 3) := by decide +kernel
theorem dX2_addLoad_16 : decode cX2_addLoad 16 = .ok (.iconst 1, 1) := by decide +kernel
theorem dX2_addLoad_17 : decode cX2_addLoad 17 = .ok (.aaload, 1) := by decide +kernel
theorem dX2_addLoad_18 : decode cX2_addLoad 18 = .ok (.aload_n 0, 1) := by decide +kernel
theorem dX2_addLoad_19 : decode cX2_addLoad 19 = .ok (.getfield 46, 3) := by decide +kernel
theorem dX2_addLoad_22 : decode cX2_addLoad 22 = .ok (.aload_n 0, 1) := by decide +kernel
theorem dX2_addLoad_23 : decode cX2_addLoad 23 = .ok (.getfield 9, 3) := by decide +kernel
theorem dX2_addLoad_26 : decode cX2_addLoad 26 = .ok (.getfield 69, 3) := by decide +kernel
theorem dX2_addLoad_29 : decode cX2_addLoad 29 = .ok (.iload_n 1, 1) := by decide +kernel
theorem dX2_addLoad_30 : decode cX2_addLoad 30 = .ok (.aaload, 1) := by decide +kernel
theorem dX2_addLoad_31 : decode cX2_addLoad 31 = .ok (.iconst 1, 1) := by decide +kernel
theorem dX2_addLoad_32 : decode cX2_addLoad 32 = .ok (.iaload, 1) := by decide +kernel
theorem dX2_addLoad_33 : decode cX2_addLoad 33 = .ok (.iastore, 1) := by decide +kernel
theorem dX2_addLoad_34 : decode cX2_addLoad 34 = .ok (.aload_n 0, 1) := by decide +kernel
theorem dX2_addLoad_35 : decode cX2_addLoad 35 = .ok (.getfield 21, 3) := by decide +kernel
theorem dX2_addLoad_38 : decode cX2_addLoad 38 = .ok (.iconst 2, 1) := by decide +kernel
theorem dX2_addLoad_39 : decode cX2_addLoad 39 = .ok (.aaload, 1) := by decide +kernel
theorem dX2_addLoad_40 : decode cX2_addLoad 40 = .ok (.aload_n 0, 1) := by decide +kernel
theorem dX2_addLoad_41 : decode cX2_addLoad 41 = .ok (.getfield 46, 3) := by decide +kernel
theorem dX2_addLoad_44 : decode cX2_addLoad 44 = .ok (.aload_n 0, 1) := by decide +kernel
theorem dX2_addLoad_45 : decode cX2_addLoad 45 = .ok (.getfield 9, 3) := by decide +kernel
theorem dX2_addLoad_48 : decode cX2_addLoad 48 = .ok (.getfield 69, 3) := by decide +kernel
theorem dX2_addLoad_51 : decode cX2_addLoad 51 = .ok (.iload_n 1, 1) := by decide +kernel
theorem dX2_addLoad_52 : decode cX2_addLoad 52 = .ok (.aaload, 1) := by decide +kernel
theorem dX2_addLoad_53 : decode cX2_addLoad 53 = .ok (.iconst 2, 1) := by decide +kernel
theorem dX2_addLoad_54 : decode cX2_addLoad 54 = .ok (.iaload, 1) := by decide +kernel
theorem dX2_addLoad_55 : decode cX2_addLoad 55 = .ok (.iastore, 1) := by decide +kernel
theorem dX2_addLoad_56 : decode cX2_addLoad 56 = .ok (.aload_n 0, 1) := by decide +kernel
theorem dX2_addLoad_57 : decode cX2_addLoad 57 = .ok (.getfield 21, 3) := by decide +kernel
theorem dX2_addLoad_60 : decode cX2_addLoad 60 = .ok (.iconst 3, 1) := by decide +kernel
theorem dX2_addLoad_61 : decode cX2_addLoad 61 = .ok (.aaload, 1) := by decide +kernel
theorem dX2_addLoad_62 : decode cX2_addLoad 62 = .ok (.aload_n 0, 1) := by decide +kernel
theorem dX2_addLoad_63 : decode cX2_addLoad 63 = .ok (.getfield 46, 3) := by decide +kernel
theorem dX2_addLoad_66 : decode cX2_addLoad 66 = .ok (.iconst 0, 1) := by decide +kernel
theorem dX2_addLoad_67 : decode cX2_addLoad 67 = .ok (.iastore, 1) := by decide +kernel
theorem dX2_addLoad_68 : decode cX2_addLoad 68 = .ok (.aload_n 0, 1) := by decide +kernel
theorem dX2_addLoad_69 : decode cX2_addLoad 69 = .ok (.getfield 21, 3) := by decide +kernel
theorem dX2_addLoad_72 : decode cX2_addLoad 72 = .ok (.iconst 4, 1) := by decide +kernel
theorem dX2_addLoad_73 : decode cX2_addLoad 73 = .ok (.aaload, 1) := by decide +kernel
theorem dX2_addLoad_74 : decode cX2_addLoad 74 = .ok (.aload_n 0, 1) := by decide +kernel
theorem dX2_addLoad_75 : decode cX2_addLoad 75 = .ok (.getfield 46, 3) := by decide +kernel
theorem dX2_addLoad_78 : decode cX2_addLoad 78 = .ok (.iconst 0, 1) := by decide +kernel
theorem dX2_addLoad_79 : decode cX2_addLoad 79 = .ok (.iastore, 1) := by decide +kernel
theorem dX2_addLoad_80 : decode cX2_addLoad 80 = .ok (.aload_n 0, 1) := by decide +kernel
theorem dX2_addLoad_81 : decode cX2_addLoad 81 = .ok (.getfield 21, 3) := by decide +kernel
theorem dX2_addLoad_84 : decode cX2_addLoad 84 = .ok (.iconst 5, 1) := by decide +kernel
theorem dX2_addLoad_85 : decode cX2_addLoad 85 = .ok (.aaload, 1) := by decide +kernel
theorem dX2_addLoad_86 : decode cX2_addLoad 86 = .ok (.aload_n 0, 1) := by decide +kernel
theorem dX2_addLoad_87 : decode cX2_addLoad 87 = .ok (.getfield 46, 3) := by decide +kernel
theorem dX2_addLoad_90 : decode cX2_addLoad 90 = .ok (.iconst 0, 1) := by decide +kernel
theorem dX2_addLoad_91 : decode cX2_addLoad 91 = .ok (.iastore, 1) := by decide +kernel
theorem dX2_addLoad_92 : decode cX2_addLoad 92 = .ok (.aload_n 0, 1) := by decide +kernel
theorem dX2_addLoad_93 : decode cX2_addLoad 93 = .ok (.getfield 21, 3) := by decide +kernel
theorem dX2_addLoad_96 : decode cX2_addLoad 96 = .ok (.bipush 6, 2) := by decide +kernel
theorem dX2_addLoad_98 : decode cX2_addLoad 98 = .ok (.aaload, 1) := by decide +kernel
theorem dX2_addLoad_99 : decode cX2_addLoad 99 = .ok (.aload_n 0, 1) := by decide +kernel
theorem dX2_addLoad_100 : decode cX2_addLoad 100 = .ok (.getfield 46, 3) := by decide +kernel
theorem dX2_addLoad_103 : decode cX2_addLoad 103 = .ok (.bipush (-2), 2) := by decide +kernel
theorem dX2_addLoad_105 : decode cX2_addLoad 105 = .ok (.iastore, 1) := by decide +kernel
theorem dX2_addLoad_106 : decode cX2_addLoad 106 = .ok (.aload_n 0, 1) := by decide +kernel
theorem dX2_addLoad_107 : decode cX2_addLoad 107 = .ok (.getfield 21, 3) := by decide +kernel
theorem dX2_addLoad_110 : decode cX2_addLoad 110 = .ok (.bipush 7, 2) := by decide +kernel
theorem dX2_addLoad_112 : decode cX2_addLoad 112 = .ok (.aaload, 1) := by decide +kernel
theorem dX2_addLoad_113 : decode cX2_addLoad 113 = .ok (.aload_n 0, 1) := by decide +kernel
theorem dX2_addLoad_114 : decode cX2_addLoad 114 = .ok (.getfield 46, 3) := by decide +kernel
theorem dX2_addLoad_117 : decode cX2_addLoad 117 = .ok (.bipush (-2), 2) := by decide +kernel
theorem dX2_addLoad_119 : decode cX2_addLoad 119 = .ok (.iastore, 1) := by decide +kernel
theorem dX2_addLoad_120 : decode cX2_addLoad 120 = .ok (.aload_n 0, 1) := by decide +kernel
theorem dX2_addLoad_121 : decode cX2_addLoad 121 = .ok (.getfield 21, 3) := by decide +kernel
theorem dX2_addLoad_124 : decode cX2_addLoad 124 = .ok (.bipush 8, 2) := by decide +kernel
theorem dX2_addLoad_126 : decode cX2_addLoad 126 = .ok (.aaload, 1) := by decide +kernel
theorem dX2_addLoad_127 : decode cX2_addLoad 127 = .ok (.aload_n 0, 1) := by decide +kernel
theorem dX2_addLoad_128 : decode cX2_addLoad 128 = .ok (.getfield 46, 3) := by decide +kernel
theorem dX2_addLoad_131 : decode cX2_addLoad 131 = .ok (.iconst 0, 1) := by decide +kernel
theorem dX2_addLoad_132 : decode cX2_addLoad 132 = .ok (.iastore, 1) := by decide +kernel
theorem dX2_addLoad_133 : decode cX2_addLoad 133 = .ok (.aload_n 0, 1) := by decide +kernel
theorem dX2_addLoad_134 : decode cX2_addLoad 134 = .ok (.getfield 21, 3) := by decide +kernel
theorem dX2_addLoad_137 : decode cX2_addLoad 137 = .ok (.bipush 9, 2) := by decide +kernel
theorem dX2_addLoad_139 : decode cX2_addLoad 139 = .ok (.aaload, 1) := by decide +kernel
theorem dX2_addLoad_140 : decode cX2_addLoad 140 = .ok (.aload_n 0, 1) := by decide +kernel
theorem dX2_addLoad_141 : decode cX2_addLoad 141 = .ok (.getfield 46, 3) := by decide +kernel
theorem dX2_addLoad_144 : decode cX2_addLoad 144 = .ok (.iconst 0, 1) := by decide +kernel
theorem dX2_addLoad_145 : decode cX2_addLoad 145 = .ok (.iastore, 1) := by decide +kernel
theorem dX2_addLoad_146 : decode cX2_addLoad 146 = .ok (.aload_n 0, 1) := by decide +kernel
theorem dX2_addLoad_147 : decode cX2_addLoad 147 = .ok (.dup, 1) := by decide +kernel
theorem dX2_addLoad_148 : decode cX2_addLoad 148 = .ok (.getfield 46, 3) := by decide +kernel
theorem dX2_addLoad_151 : decode cX2_addLoad 151 = .ok (.iconst 1, 1) := by decide +kernel
theorem dX2_addLoad_152 : decode cX2_addLoad 152 = .ok (.iadd, 1) := by decide +kernel
theorem dX2_addLoad_153 : decode cX2_addLoad 153 = .ok (.putfield 46, 3) := by decide +kernel
theorem dX2_addLoad_156 : decode cX2_addLoad 156 = .ok (.return_, 1) := by decide +kernel
theorem dX2_advance_0 : decode cX2_advance 0 = .ok (.aload_n 0, 1) := by decide +kernel
theorem dX2_advance_1 : decode cX2_advance 1 = .ok (.getfield 21, 3) := by decide +kernel
theorem dX2_advance_4 : decode cX2_advance 4 = .ok (.iconst 3, 1) := by decide +kernel
theorem dX2_advance_5 : decode cX2_advance 5 = .ok (.aaload, 1) := by decide +kernel
theorem dX2_advance_6 : decode cX2_advance 6 = .ok (.iload_n 1, 1) := by decide +kernel
theorem dX2_advance_7 : decode cX2_advance 7 = .ok (.iaload, 1) := by decide +kernel
theorem dX2_advance_8 : decode cX2_advance 8 = .ok (.istore_n 2, 1) := by decide +kernel
theorem dX2_advance_9 : decode cX2_advance 9 = .ok (.iload_n 2, 1) := by decide +kernel
theorem dX2_advance_10 : decode cX2_advance 10 = .ok (.iconst 2, 1) := by decide +kernel
theorem dX2_advance_11 : decode cX2_advance 11 = .ok (.if_icmp .eq 9, 3) := by decide +kernel
theorem dX2_advance_14 : decode cX2_advance 14 = .ok (.iload_n 2, 1) := by decide +kernel
theorem dX2_advance_15 : decode cX2_advance 15 = .ok (.iconst 4, 1) := by decide +kernel
theorem dX2_advance_16 : decode cX2_advance 16 = .ok (.if_icmp .eq 4, 3) := by decide +kernel
theorem dX2_advance_19 : decode cX2_advance 19 = .ok (.return_, 1) := by decide +kernel
theorem dX2_advance_20 : decode cX2_advance 20 = .ok (.aload_n 0, 1) := by decide +kernel
theorem dX2_advance_21 : decode cX2_advance 21 = .ok (.getfield 21, 3) := by decide +kernel
theorem dX2_advance_24 : decode cX2_advance 24 = .ok (.iconst 4, 1) := by decide +kernel
theorem dX2_advance_25 : decode cX2_advance 25 = .ok (.aaload, 1) := by decide +kernel
theorem dX2_advance_26 : decode cX2_advance 26 = .ok (.iload_n 1, 1) := by decide +kernel
theorem dX2_advance_27 : decode cX2_advance 27 = .ok (.dup2, 1) := by decide +kernel
theorem dX2_advance_28 : decode cX2_advance 28 = .ok (.iaload, 1) := by decide +kernel
theorem dX2_advance_29 : decode cX2_advance 29 = .ok (.iconst 1, 1) := by decide +kernel
theorem dX2_advance_30 : decode cX2_advance 30 = .ok (.isub, 1) := by decide +kernel
theorem dX2_advance_31 : decode cX2_advance 31 = .ok (.iastore, 1) := by decide +kernel
theorem dX2_advance_32 : decode cX2_advance 32 = .ok (.aload_n 0, 1) := by decide +kernel
theorem dX2_advance_33 : decode cX2_advance 33 = .ok (.getfield 21, 3) := by decide +kernel
theorem dX2_advance_36 : decode cX2_advance 36 = .ok (.iconst 4, 1) := by decide +kernel
theorem dX2_advance_37 : decode cX2_advance 37 = .ok (.aaload, 1) := by decide +kernel
theorem dX2_advance_38 : decode cX2_advance 38 = .ok (.iload_n 1, 1) := by decide +kernel
theorem dX2_advance_39 : decode cX2_advance 39 = .ok (.iaload, 1) := by decide +kernel
theorem dX2_advance_40 : decode cX2_advance 40 = .ok (.ifCond .le 4, 3) := by decide +kernel
theorem dX2_advance_43 : decode cX2_advance 43 = .ok (.return_, 1) := by decide +kernel
theorem dX2_advance_44 : decode cX2_advance 44 = .ok (.iload_n 2, 1) := by decide +kernel
theorem dX2_advance_45 : decode cX2_advance 45 = .ok (.iconst 2, 1) := by decide +kernel
theorem dX2_advance_46 : decode cX2_advance 46 = .ok (.if_icmp .ne 11, 3) := by decide +kernel
theorem dX2_advance_49 : decode cX2_advance 49 = .ok (.aload_n 0, 1) := by decide +kernel
theorem dX2_advance_50 : decode cX2_advance 50 = .ok (.iload_n 1, 1) := by decide +kernel
theorem dX2_advance_51 : decode cX2_advance 51 = .ok (.invokevirtual 106, 3) := by decide +kernel
theorem dX2_advance_54 : decode cX2_advance 54 = .ok (.goto 8, 3) := by decide +kernel
theorem dX2_advance_57 : decode cX2_advance 57 = .ok (.aload_n 0, 1) := by decide +kernel
theorem dX2_advance_58 : decode cX2_advance 58 = .ok (.iload_n 1, 1) := by decide +kernel
theorem dX2_advance_59 : decode cX2_advance 59 = .ok (.invokevirtual 109, 3) := by decide +kernel
theorem dX2_advance_62 : decode cX2_advance 62 = .ok (.return_, 1) := by decide +kernel
theorem dX2_allWaits_0 : decode cX2_allWaits 0 = .ok (.iconst 0, 1) := by decide +kernel
theorem dX2_allWaits_1 : decode cX2_allWaits 1 = .ok (.istore_n 1, 1) := by decide +kernel
theorem dX2_allWaits_2 : decode cX2_allWaits 2 = .ok (.iconst 0, 1) := by decide +kernel
theorem dX2_allWaits_3 : decode cX2_allWaits 3 = .ok (.istore_n 2, 1) := by decide +kernel
theorem dX2_allWaits_4 : decode cX2_allWaits 4 = .ok (.iload_n 2, 1) := by decide +kernel
theorem dX2_allWaits_5 : decode cX2_allWaits 5 = .ok (.aload_n 0, 1) := by decide +kernel
theorem dX2_allWaits_6 : decode cX2_allWaits 6 = .ok (.getfield 46, 3) := by decide +kernel
theorem dX2_allWaits_9 : decode cX2_allWaits 9 = .ok (.if_icmp .ge 20, 3) := by decide +kernel
theorem dX2_allWaits_12 : decode cX2_allWaits 12 = .ok (.iload_n 1, 1) := by decide +kernel
theorem dX2_allWaits_13 : decode cX2_allWaits 13 = .ok (.aload_n 0, 1) := by decide +kernel
theorem dX2_allWaits_14 : decode cX2_allWaits 14 = .ok (.getfield 21, 3) := by decide +kernel
theorem dX2_allWaits_17 : decode cX2_allWaits 17 = .ok (.iconst 5, 1) := by decide +kernel
theorem dX2_allWaits_18 : decode cX2_allWaits 18 = .ok (.aaload, 1) := by decide +kernel
theorem dX2_allWaits_19 : decode cX2_allWaits 19 = .ok (.iload_n 2, 1) := by decide +kernel
theorem dX2_allWaits_20 : decode cX2_allWaits 20 = .ok (.iaload, 1) := by decide +kernel
theorem dX2_allWaits_21 : decode cX2_allWaits 21 = .ok (.iadd, 1) := by decide +kernel
theorem dX2_allWaits_22 : decode cX2_allWaits 22 = .ok (.istore_n 1, 1) := by decide +kernel
theorem dX2_allWaits_23 : decode cX2_allWaits 23 = .ok (.iinc 2 1, 3) := by decide +kernel
theorem dX2_allWaits_26 : decode cX2_allWaits 26 = .ok (.goto (-22), 3) := by decide +kernel
theorem dX2_allWaits_29 : decode cX2_allWaits 29 = .ok (.iload_n 1, 1) := by decide +kernel
theorem dX2_allWaits_30 : decode cX2_allWaits 30 = .ok (.ireturn, 1) := by decide +kernel
theorem dX2_arrive_0 : decode cX2_arrive 0 = .ok (.aload_n 0, 1) := by decide +kernel
theorem dX2_arrive_1 : decode cX2_arrive 1 = .ok (.iload_n 1, 1) := by decide +kernel
theorem dX2_arrive_2 : decode cX2_arrive 2 = .ok (.invokevirtual 100, 3) := by decide +kernel
theorem dX2_arrive_5 : decode cX2_arrive 5 = .ok (.iconst (-1), 1) := by decide +kernel
theorem dX2_arrive_6 : decode cX2_arrive 6 = .ok (.if_icmp .ne 28, 3) := by decide +kernel
theorem dX2_arrive_9 : decode cX2_arrive 9 = .ok (.aload_n 0, 1) := by decide +kernel
theorem dX2_arrive_10 : decode cX2_arrive 10 = .ok (.getfield 21, 3) := by decide +kernel
theorem dX2_arrive_13 : decode cX2_arrive 13 = .ok (.iconst 3, 1) := by decide +kernel
theorem dX2_arrive_14 : decode cX2_arrive 14 = .ok (.aaload, 1) := by decide +kernel
theorem dX2_arrive_15 : decode cX2_arrive 15 = .ok (.iload_n 1, 1) := by decide +kernel
theorem dX2_arrive_16 : decode cX2_arrive 16 = .ok (.iconst 5, 1) := by decide +kernel
theorem dX2_arrive_17 : decode cX2_arrive 17 = .ok (.iastore, 1) := by decide +kernel
theorem dX2_arrive_18 : decode cX2_arrive 18 = .ok (.aload_n 0, 1) := by decide +kernel
theorem dX2_arrive_19 : decode cX2_arrive 19 = .ok (.getfield 21, 3) := by decide +kernel
theorem dX2_arrive_22 : decode cX2_arrive 22 = .ok (.bipush 7, 2) := by decide +kernel
theorem dX2_arrive_24 : decode cX2_arrive 24 = .ok (.aaload, 1) := by decide +kernel
theorem dX2_arrive_25 : decode cX2_arrive 25 = .ok (.iload_n 1, 1) := by decide +kernel
theorem dX2_arrive_26 : decode cX2_arrive 26 = .ok (.aload_n 0, 1) := by decide +kernel
theorem dX2_arrive_27 : decode cX2_arrive 27 = .ok (.getfield 42, 3) := by decide +kernel
theorem dX2_arrive_30 : decode cX2_arrive 30 = .ok (.iastore, 1) := by decide +kernel
theorem dX2_arrive_31 : decode cX2_arrive 31 = .ok (.goto 25, 3) := by decide +kernel
theorem dX2_arrive_34 : decode cX2_arrive 34 = .ok (.aload_n 0, 1) := by decide +kernel
theorem dX2_arrive_35 : decode cX2_arrive 35 = .ok (.getfield 21, 3) := by decide +kernel
theorem dX2_arrive_38 : decode cX2_arrive 38 = .ok (.iconst 3, 1) := by decide +kernel
theorem dX2_arrive_39 : decode cX2_arrive 39 = .ok (.aaload, 1) := by decide +kernel
theorem dX2_arrive_40 : decode cX2_arrive 40 = .ok (.iload_n 1, 1) := by decide +kernel
theorem dX2_arrive_41 : decode cX2_arrive 41 = .ok (.iconst 3, 1) := by decide +kernel
theorem dX2_arrive_42 : decode cX2_arrive 42 = .ok (.iastore, 1) := by decide +kernel
theorem dX2_arrive_43 : decode cX2_arrive 43 = .ok (.aload_n 0, 1) := by decide +kernel
theorem dX2_arrive_44 : decode cX2_arrive 44 = .ok (.getfield 21, 3) := by decide +kernel
theorem dX2_arrive_47 : decode cX2_arrive 47 = .ok (.bipush 9, 2) := by decide +kernel
theorem dX2_arrive_49 : decode cX2_arrive 49 = .ok (.aaload, 1) := by decide +kernel
theorem dX2_arrive_50 : decode cX2_arrive 50 = .ok (.iload_n 1, 1) := by decide +kernel
theorem dX2_arrive_51 : decode cX2_arrive 51 = .ok (.aload_n 0, 1) := by decide +kernel
theorem dX2_arrive_52 : decode cX2_arrive 52 = .ok (.getfield 42, 3) := by decide +kernel
theorem dX2_arrive_55 : decode cX2_arrive 55 = .ok (.iastore, 1) := by decide +kernel
theorem dX2_arrive_56 : decode cX2_arrive 56 = .ok (.return_, 1) := by decide +kernel
theorem dX2_begin_0 : decode cX2_begin 0 = .ok (.aload_n 0, 1) := by decide +kernel
theorem dX2_begin_1 : decode cX2_begin 1 = .ok (.aload_n 1, 1) := by decide +kernel
theorem dX2_begin_2 : decode cX2_begin 2 = .ok (.putfield 9, 3) := by decide +kernel
theorem dX2_begin_5 : decode cX2_begin 5 = .ok (.aload_n 0, 1) := by decide +kernel
theorem dX2_begin_6 : decode cX2_begin 6 = .ok (.aload_n 2, 1) := by decide +kernel
theorem dX2_begin_7 : decode cX2_begin 7 = .ok (.putfield 15, 3) := by decide +kernel
theorem dX2_begin_10 : decode cX2_begin 10 = .ok (.aload_n 0, 1) := by decide +kernel
theorem dX2_begin_11 : decode cX2_begin 11 = .ok (.iconst 0, 1) := by decide +kernel
theorem dX2_begin_12 : decode cX2_begin 12 = .ok (.putfield 42, 3) := by decide +kernel
theorem dX2_begin_15 : decode cX2_begin 15 = .ok (.aload_n 0, 1) := by decide +kernel
theorem dX2_begin_16 : decode cX2_begin 16 = .ok (.iconst 0, 1) := by decide +kernel
theorem dX2_begin_17 : decode cX2_begin 17 = .ok (.putfield 46, 3) := by decide +kernel
theorem dX2_begin_20 : decode cX2_begin 20 = .ok (.aload_n 0, 1) := by decide +kernel
theorem dX2_begin_21 : decode cX2_begin 21 = .ok (.getfield 26, 3) := by decide +kernel
theorem dX2_begin_24 : decode cX2_begin 24 = .ok (.bipush (-2), 2) := by decide +kernel
theorem dX2_begin_26 : decode cX2_begin 26 = .ok (.invokestatic 49, 3) := by decide +kernel
theorem dX2_begin_29 : decode cX2_begin 29 = .ok (.aload_n 0, 1) := by decide +kernel
theorem dX2_begin_30 : decode cX2_begin 30 = .ok (.getfield 30, 3) := by decide +kernel
theorem dX2_begin_33 : decode cX2_begin 33 = .ok (.bipush (-2), 2) := by decide +kernel
theorem dX2_begin_35 : decode cX2_begin 35 = .ok (.invokestatic 49, 3) := by decide +kernel
theorem dX2_begin_38 : decode cX2_begin 38 = .ok (.aload_n 0, 1) := by decide +kernel
theorem dX2_begin_39 : decode cX2_begin 39 = .ok (.getfield 33, 3) := by decide +kernel
theorem dX2_begin_42 : decode cX2_begin 42 = .ok (.iconst 0, 1) := by decide +kernel
theorem dX2_begin_43 : decode cX2_begin 43 = .ok (.invokestatic 49, 3) := by decide +kernel
theorem dX2_begin_46 : decode cX2_begin 46 = .ok (.aload_n 0, 1) := by decide +kernel
theorem dX2_begin_47 : decode cX2_begin 47 = .ok (.getfield 36, 3) := by decide +kernel
theorem dX2_begin_50 : decode cX2_begin 50 = .ok (.iconst 0, 1) := by decide +kernel
theorem dX2_begin_51 : decode cX2_begin 51 = .ok (.invokestatic 49, 3) := by decide +kernel
theorem dX2_begin_54 : decode cX2_begin 54 = .ok (.iconst 0, 1) := by decide +kernel
theorem dX2_begin_55 : decode cX2_begin 55 = .ok (.istore_n 3, 1) := by decide +kernel
theorem dX2_begin_56 : decode cX2_begin 56 = .ok (.iload_n 3, 1) := by decide +kernel
theorem dX2_begin_57 : decode cX2_begin 57 = .ok (.aload_n 0, 1) := by decide +kernel
theorem dX2_begin_58 : decode cX2_begin 58 = .ok (.getfield 9, 3) := by decide +kernel
theorem dX2_begin_61 : decode cX2_begin 61 = .ok (.getfield 55, 3) := by decide +kernel
theorem dX2_begin_64 : decode cX2_begin 64 = .ok (.if_icmp .ge 66, 3) := by decide +kernel
theorem dX2_begin_67 : decode cX2_begin 67 = .ok (.aload_n 0, 1) := by decide +kernel
theorem dX2_begin_68 : decode cX2_begin 68 = .ok (.getfield 15, 3) := by decide +kernel
theorem dX2_begin_71 : decode cX2_begin 71 = .ok (.iload_n 3, 1) := by decide +kernel
theorem dX2_begin_72 : decode cX2_begin 72 = .ok (.aaload, 1) := by decide +kernel
theorem dX2_begin_73 : decode cX2_begin 73 = .ok (.getfield 58, 3) := by decide +kernel
theorem dX2_begin_76 : decode cX2_begin 76 = .ok (.ifCond .eq 15, 3) := by decide +kernel
theorem dX2_begin_79 : decode cX2_begin 79 = .ok (.aload_n 0, 1) := by decide +kernel
theorem dX2_begin_80 : decode cX2_begin 80 = .ok (.getfield 15, 3) := by decide +kernel
theorem dX2_begin_83 : decode cX2_begin 83 = .ok (.iload_n 3, 1) := by decide +kernel
theorem dX2_begin_84 : decode cX2_begin 84 = .ok (.aaload, 1) := by decide +kernel
theorem dX2_begin_85 : decode cX2_begin 85 = .ok (.getfield 64, 3) := by decide +kernel
theorem dX2_begin_88 : decode cX2_begin 88 = .ok (.goto 4, 3) := by decide +kernel
theorem dX2_begin_91 : decode cX2_begin 91 = .ok (.iconst 0, 1) := by decide +kernel
theorem dX2_begin_92 : decode cX2_begin 92 = .ok (.istore 4, 2) := by decide +kernel
theorem dX2_begin_94 : decode cX2_begin 94 = .ok (.iconst 0, 1) := by decide +kernel
theorem dX2_begin_95 : decode cX2_begin 95 = .ok (.istore 5, 2) := by decide +kernel
theorem dX2_begin_97 : decode cX2_begin 97 = .ok (.iload 5, 2) := by decide +kernel
theorem dX2_begin_99 : decode cX2_begin 99 = .ok (.iload 4, 2) := by decide +kernel
theorem dX2_begin_101 : decode cX2_begin 101 = .ok (.if_icmp .ge 23, 3) := by decide +kernel
theorem dX2_begin_104 : decode cX2_begin 104 = .ok (.aload_n 0, 1) := by decide +kernel
theorem dX2_begin_105 : decode cX2_begin 105 = .ok (.getfield 46, 3) := by decide +kernel
theorem dX2_begin_108 : decode cX2_begin 108 = .ok (.bipush 72, 2) := by decide +kernel
theorem dX2_begin_110 : decode cX2_begin 110 = .ok (.if_icmp .ge 14, 3) := by decide +kernel
theorem dX2_begin_113 : decode cX2_begin 113 = .ok (.aload_n 0, 1) := by decide +kernel
theorem dX2_begin_114 : decode cX2_begin 114 = .ok (.iload_n 3, 1) := by decide +kernel
theorem dX2_begin_115 : decode cX2_begin 115 = .ok (.invokevirtual 65, 3) := by decide +kernel
theorem dX2_begin_118 : decode cX2_begin 118 = .ok (.iinc 5 1, 3) := by decide +kernel
theorem dX2_begin_121 : decode cX2_begin 121 = .ok (.goto (-24), 3) := by decide +kernel
theorem dX2_begin_124 : decode cX2_begin 124 = .ok (.iinc 3 1, 3) := by decide +kernel
theorem dX2_begin_127 : decode cX2_begin 127 = .ok (.goto (-71), 3) := by decide +kernel
theorem dX2_begin_130 : decode cX2_begin 130 = .ok (.return_, 1) := by decide +kernel
theorem dX2_copy_0 : decode cX2_copy 0 = .ok (.aload_n 0, 1) := by decide +kernel
theorem dX2_copy_1 : decode cX2_copy 1 = .ok (.aload_n 1, 1) := by decide +kernel
theorem dX2_copy_2 : decode cX2_copy 2 = .ok (.getfield 9, 3) := by decide +kernel
theorem dX2_copy_5 : decode cX2_copy 5 = .ok (.putfield 9, 3) := by decide +kernel
theorem dX2_copy_8 : decode cX2_copy 8 = .ok (.aload_n 0, 1) := by decide +kernel
theorem dX2_copy_9 : decode cX2_copy 9 = .ok (.aload_n 1, 1) := by decide +kernel
theorem dX2_copy_10 : decode cX2_copy 10 = .ok (.getfield 15, 3) := by decide +kernel
theorem dX2_copy_13 : decode cX2_copy 13 = .ok (.putfield 15, 3) := by decide +kernel
theorem dX2_copy_16 : decode cX2_copy 16 = .ok (.aload_n 0, 1) := by decide +kernel
theorem dX2_copy_17 : decode cX2_copy 17 = .ok (.aload_n 1, 1) := by decide +kernel
theorem dX2_copy_18 : decode cX2_copy 18 = .ok (.getfield 42, 3) := by decide +kernel
theorem dX2_copy_21 : decode cX2_copy 21 = .ok (.putfield 42, 3) := by decide +kernel
theorem dX2_copy_24 : decode cX2_copy 24 = .ok (.aload_n 0, 1) := by decide +kernel
theorem dX2_copy_25 : decode cX2_copy 25 = .ok (.aload_n 1, 1) := by decide +kernel
theorem dX2_copy_26 : decode cX2_copy 26 = .ok (.getfield 46, 3) := by decide +kernel
theorem dX2_copy_29 : decode cX2_copy 29 = .ok (.putfield 46, 3) := by decide +kernel
theorem dX2_copy_32 : decode cX2_copy 32 = .ok (.iconst 0, 1) := by decide +kernel
theorem dX2_copy_33 : decode cX2_copy 33 = .ok (.istore_n 2, 1) := by decide +kernel
theorem dX2_copy_34 : decode cX2_copy 34 = .ok (.iload_n 2, 1) := by decide +kernel
theorem dX2_copy_35 : decode cX2_copy 35 = .ok (.bipush 10, 2) := by decide +kernel
theorem dX2_copy_37 : decode cX2_copy 37 = .ok (.if_icmp .ge 30, 3) := by decide +kernel
theorem dX2_copy_40 : decode cX2_copy 40 = .ok (.aload_n 1, 1) := by decide +kernel
theorem dX2_copy_41 : decode cX2_copy 41 = .ok (.getfield 21, 3) := by decide +kernel
theorem dX2_copy_44 : decode cX2_copy 44 = .ok (.iload_n 2, 1) := by decide +kernel
theorem dX2_copy_45 : decode cX2_copy 45 = .ok (.aaload, 1) := by decide +kernel
theorem dX2_copy_46 : decode cX2_copy 46 = .ok (.iconst 0, 1) := by decide +kernel
theorem dX2_copy_47 : decode cX2_copy 47 = .ok (.aload_n 0, 1) := by decide +kernel
theorem dX2_copy_48 : decode cX2_copy 48 = .ok (.getfield 21, 3) := by decide +kernel
theorem dX2_copy_51 : decode cX2_copy 51 = .ok (.iload_n 2, 1) := by decide +kernel
theorem dX2_copy_52 : decode cX2_copy 52 = .ok (.aaload, 1) := by decide +kernel
theorem dX2_copy_53 : decode cX2_copy 53 = .ok (.iconst 0, 1) := by decide +kernel
theorem dX2_copy_54 : decode cX2_copy 54 = .ok (.aload_n 0, 1) := by decide +kernel
theorem dX2_copy_55 : decode cX2_copy 55 = .ok (.getfield 46, 3) := by decide +kernel
theorem dX2_copy_58 : decode cX2_copy 58 = .ok (.invokestatic 72, 3) := by decide +kernel
theorem dX2_copy_61 : decode cX2_copy 61 = .ok (.iinc 2 1, 3) := by decide +kernel
theorem dX2_copy_64 : decode cX2_copy 64 = .ok (.goto (-30), 3) := by decide +kernel
theorem dX2_copy_67 : decode cX2_copy 67 = .ok (.aload_n 1, 1) := by decide +kernel
theorem dX2_copy_68 : decode cX2_copy 68 = .ok (.getfield 26, 3) := by decide +kernel
theorem dX2_copy_71 : decode cX2_copy 71 = .ok (.iconst 0, 1) := by decide +kernel
theorem dX2_copy_72 : decode cX2_copy 72 = .ok (.aload_n 0, 1) := by decide +kernel
theorem dX2_copy_73 : decode cX2_copy 73 = .ok (.getfield 26, 3) := by decide +kernel
theorem dX2_copy_76 : decode cX2_copy 76 = .ok (.iconst 0, 1) := by decide +kernel
theorem dX2_copy_77 : decode cX2_copy 77 = .ok (.bipush 8, 2) := by decide +kernel
theorem dX2_copy_79 : decode cX2_copy 79 = .ok (.invokestatic 72, 3) := by decide +kernel
theorem dX2_copy_82 : decode cX2_copy 82 = .ok (.aload_n 1, 1) := by decide +kernel
theorem dX2_copy_83 : decode cX2_copy 83 = .ok (.getfield 30, 3) := by decide +kernel
theorem dX2_copy_86 : decode cX2_copy 86 = .ok (.iconst 0, 1) := by decide +kernel
theorem dX2_copy_87 : decode cX2_copy 87 = .ok (.aload_n 0, 1) := by decide +kernel
theorem dX2_copy_88 : decode cX2_copy 88 = .ok (.getfield 30, 3) := by decide +kernel
theorem dX2_copy_91 : decode cX2_copy 91 = .ok (.iconst 0, 1) := by decide +kernel
theorem dX2_copy_92 : decode cX2_copy 92 = .ok (.bipush 11, 2) := by decide +kernel
theorem dX2_copy_94 : decode cX2_copy 94 = .ok (.invokestatic 72, 3) := by decide +kernel
theorem dX2_copy_97 : decode cX2_copy 97 = .ok (.aload_n 1, 1) := by decide +kernel
theorem dX2_copy_98 : decode cX2_copy 98 = .ok (.getfield 33, 3) := by decide +kernel
theorem dX2_copy_101 : decode cX2_copy 101 = .ok (.iconst 0, 1) := by decide +kernel
theorem dX2_copy_102 : decode cX2_copy 102 = .ok (.aload_n 0, 1) := by decide +kernel
theorem dX2_copy_103 : decode cX2_copy 103 = .ok (.getfield 33, 3) := by decide +kernel
theorem dX2_copy_106 : decode cX2_copy 106 = .ok (.iconst 0, 1) := by decide +kernel
theorem dX2_copy_107 : decode cX2_copy 107 = .ok (.bipush 11, 2) := by decide +kernel
theorem dX2_copy_109 : decode cX2_copy 109 = .ok (.invokestatic 72, 3) := by decide +kernel
theorem dX2_copy_112 : decode cX2_copy 112 = .ok (.aload_n 1, 1) := by decide +kernel
theorem dX2_copy_113 : decode cX2_copy 113 = .ok (.getfield 36, 3) := by decide +kernel
theorem dX2_copy_116 : decode cX2_copy 116 = .ok (.iconst 0, 1) := by decide +kernel
theorem dX2_copy_117 : decode cX2_copy 117 = .ok (.aload_n 0, 1) := by decide +kernel
theorem dX2_copy_118 : decode cX2_copy 118 = .ok (.getfield 36, 3) := by decide +kernel
theorem dX2_copy_121 : decode cX2_copy 121 = .ok (.iconst 0, 1) := by decide +kernel
theorem dX2_copy_122 : decode cX2_copy 122 = .ok (.bipush 11, 2) := by decide +kernel
theorem dX2_copy_124 : decode cX2_copy 124 = .ok (.invokestatic 72, 3) := by decide +kernel
theorem dX2_copy_127 : decode cX2_copy 127 = .ok (.return_, 1) := by decide +kernel
theorem dX2_gateAhead_0 : decode cX2_gateAhead 0 = .ok (.aload_n 0, 1) := by decide +kernel
theorem dX2_gateAhead_1 : decode cX2_gateAhead 1 = .ok (.getfield 15, 3) := by decide +kernel
theorem dX2_gateAhead_4 : decode cX2_gateAhead 4 = .ok (.aload_n 0, 1) := by decide +kernel
theorem dX2_gateAhead_5 : decode cX2_gateAhead 5 = .ok (.getfield 21, 3) := by decide +kernel
theorem dX2_gateAhead_8 : decode cX2_gateAhead 8 = .ok (.iconst 0, 1) := by decide +kernel
theorem dX2_gateAhead_9 : decode cX2_gateAhead 9 = .ok (.aaload, 1) := by decide +kernel
theorem dX2_gateAhead_10 : decode cX2_gateAhead 10 = .ok (.iload_n 1, 1) := by decide +kernel
theorem dX2_gateAhead_11 : decode cX2_gateAhead 11 = .ok (.iaload, 1) := by decide +kernel
theorem dX2_gateAhead_12 : decode cX2_gateAhead 12 = .ok (.aaload, 1) := by decide +kernel
theorem dX2_gateAhead_13 : decode cX2_gateAhead 13 = .ok (.astore_n 2, 1) := by decide +kernel
theorem dX2_gateAhead_14 : decode cX2_gateAhead 14 = .ok (.aload_n 0, 1) := by decide +kernel
theorem dX2_gateAhead_15 : decode cX2_gateAhead 15 = .ok (.getfield 21, 3) := by decide +kernel
theorem dX2_gateAhead_18 : decode cX2_gateAhead 18 = .ok (.bipush 8, 2) := by decide +kernel
theorem dX2_gateAhead_20 : decode cX2_gateAhead 20 = .ok (.aaload, 1) := by decide +kernel
theorem dX2_gateAhead_21 : decode cX2_gateAhead 21 = .ok (.iload_n 1, 1) := by decide +kernel
theorem dX2_gateAhead_22 : decode cX2_gateAhead 22 = .ok (.iaload, 1) := by decide +kernel
theorem dX2_gateAhead_23 : decode cX2_gateAhead 23 = .ok (.istore_n 3, 1) := by decide +kernel
theorem dX2_gateAhead_24 : decode cX2_gateAhead 24 = .ok (.iload_n 3, 1) := by decide +kernel
theorem dX2_gateAhead_25 : decode cX2_gateAhead 25 = .ok (.aload_n 2, 1) := by decide +kernel
theorem dX2_gateAhead_26 : decode cX2_gateAhead 26 = .ok (.getfield 94, 3) := by decide +kernel
theorem dX2_gateAhead_29 : decode cX2_gateAhead 29 = .ok (.if_icmp .ge 12, 3) := by decide +kernel
theorem dX2_gateAhead_32 : decode cX2_gateAhead 32 = .ok (.aload_n 2, 1) := by decide +kernel
theorem dX2_gateAhead_33 : decode cX2_gateAhead 33 = .ok (.getfield 97, 3) := by decide +kernel
theorem dX2_gateAhead_36 : decode cX2_gateAhead 36 = .ok (.iload_n 3, 1) := by decide +kernel
theorem dX2_gateAhead_37 : decode cX2_gateAhead 37 = .ok (.iaload, 1) := by decide +kernel
theorem dX2_gateAhead_38 : decode cX2_gateAhead 38 = .ok (.goto 4, 3) := by decide +kernel
theorem dX2_gateAhead_41 : decode cX2_gateAhead 41 = .ok (.iconst (-1), 1) := by decide +kernel
theorem dX2_gateAhead_42 : decode cX2_gateAhead 42 = .ok (.ireturn, 1) := by decide +kernel
theorem dX2_goOn_0 : decode cX2_goOn 0 = .ok (.iconst 0, 1) := by decide +kernel
theorem dX2_goOn_1 : decode cX2_goOn 1 = .ok (.istore_n 1, 1) := by decide +kernel
theorem dX2_goOn_2 : decode cX2_goOn 2 = .ok (.iload_n 1, 1) := by decide +kernel
theorem dX2_goOn_3 : decode cX2_goOn 3 = .ok (.aload_n 0, 1) := by decide +kernel
theorem dX2_goOn_4 : decode cX2_goOn 4 = .ok (.getfield 46, 3) := by decide +kernel
theorem dX2_goOn_7 : decode cX2_goOn 7 = .ok (.if_icmp .ge 14, 3) := by decide +kernel
theorem dX2_goOn_10 : decode cX2_goOn 10 = .ok (.aload_n 0, 1) := by decide +kernel
theorem dX2_goOn_11 : decode cX2_goOn 11 = .ok (.iload_n 1, 1) := by decide +kernel
theorem dX2_goOn_12 : decode cX2_goOn 12 = .ok (.invokevirtual 78, 3) := by decide +kernel
theorem dX2_goOn_15 : decode cX2_goOn 15 = .ok (.iinc 1 1, 3) := by decide +kernel
theorem dX2_goOn_18 : decode cX2_goOn 18 = .ok (.goto (-16), 3) := by decide +kernel
theorem dX2_goOn_21 : decode cX2_goOn 21 = .ok (.aload_n 0, 1) := by decide +kernel
theorem dX2_goOn_22 : decode cX2_goOn 22 = .ok (.invokevirtual 81, 3) := by decide +kernel
theorem dX2_goOn_25 : decode cX2_goOn 25 = .ok (.iconst 0, 1) := by decide +kernel
theorem dX2_goOn_26 : decode cX2_goOn 26 = .ok (.istore_n 1, 1) := by decide +kernel
theorem dX2_goOn_27 : decode cX2_goOn 27 = .ok (.iload_n 1, 1) := by decide +kernel
theorem dX2_goOn_28 : decode cX2_goOn 28 = .ok (.aload_n 0, 1) := by decide +kernel
theorem dX2_goOn_29 : decode cX2_goOn 29 = .ok (.getfield 46, 3) := by decide +kernel
theorem dX2_goOn_32 : decode cX2_goOn 32 = .ok (.if_icmp .ge 14, 3) := by decide +kernel
theorem dX2_goOn_35 : decode cX2_goOn 35 = .ok (.aload_n 0, 1) := by decide +kernel
theorem dX2_goOn_36 : decode cX2_goOn 36 = .ok (.iload_n 1, 1) := by decide +kernel
theorem dX2_goOn_37 : decode cX2_goOn 37 = .ok (.invokevirtual 84, 3) := by decide +kernel
theorem dX2_goOn_40 : decode cX2_goOn 40 = .ok (.iinc 1 1, 3) := by decide +kernel
theorem dX2_goOn_43 : decode cX2_goOn 43 = .ok (.goto (-16), 3) := by decide +kernel
theorem dX2_goOn_46 : decode cX2_goOn 46 = .ok (.iconst 0, 1) := by decide +kernel
theorem dX2_goOn_47 : decode cX2_goOn 47 = .ok (.istore_n 1, 1) := by decide +kernel
theorem dX2_goOn_48 : decode cX2_goOn 48 = .ok (.iload_n 1, 1) := by decide +kernel
theorem dX2_goOn_49 : decode cX2_goOn 49 = .ok (.aload_n 0, 1) := by decide +kernel
theorem dX2_goOn_50 : decode cX2_goOn 50 = .ok (.getfield 46, 3) := by decide +kernel
theorem dX2_goOn_53 : decode cX2_goOn 53 = .ok (.if_icmp .ge 45, 3) := by decide +kernel
theorem dX2_goOn_56 : decode cX2_goOn 56 = .ok (.aload_n 0, 1) := by decide +kernel
theorem dX2_goOn_57 : decode cX2_goOn 57 = .ok (.getfield 21, 3) := by decide +kernel
theorem dX2_goOn_60 : decode cX2_goOn 60 = .ok (.iconst 3, 1) := by decide +kernel
theorem dX2_goOn_61 : decode cX2_goOn 61 = .ok (.aaload, 1) := by decide +kernel
theorem dX2_goOn_62 : decode cX2_goOn 62 = .ok (.iload_n 1, 1) := by decide +kernel
theorem dX2_goOn_63 : decode cX2_goOn 63 = .ok (.iaload, 1) := by decide +kernel
theorem dX2_goOn_64 : decode cX2_goOn 64 = .ok (.iconst 1, 1) := by decide +kernel
theorem dX2_goOn_65 : decode cX2_goOn 65 = .ok (.if_icmp .eq 15, 3) := by decide +kernel
theorem dX2_goOn_68 : decode cX2_goOn 68 = .ok (.aload_n 0, 1) := by decide +kernel
theorem dX2_goOn_69 : decode cX2_goOn 69 = .ok (.getfield 21, 3) := by decide +kernel
theorem dX2_goOn_72 : decode cX2_goOn 72 = .ok (.iconst 3, 1) := by decide +kernel
theorem dX2_goOn_73 : decode cX2_goOn 73 = .ok (.aaload, 1) := by decide +kernel
theorem dX2_goOn_74 : decode cX2_goOn 74 = .ok (.iload_n 1, 1) := by decide +kernel
theorem dX2_goOn_75 : decode cX2_goOn 75 = .ok (.iaload, 1) := by decide +kernel
theorem dX2_goOn_76 : decode cX2_goOn 76 = .ok (.iconst 3, 1) := by decide +kernel
theorem dX2_goOn_77 : decode cX2_goOn 77 = .ok (.if_icmp .ne 15, 3) := by decide +kernel
theorem dX2_goOn_80 : decode cX2_goOn 80 = .ok (.aload_n 0, 1) := by decide +kernel
theorem dX2_goOn_81 : decode cX2_goOn 81 = .ok (.getfield 21, 3) := by decide +kernel
theorem dX2_goOn_84 : decode cX2_goOn 84 = .ok (.iconst 5, 1) := by decide +kernel
theorem dX2_goOn_85 : decode cX2_goOn 85 = .ok (.aaload, 1) := by decide +kernel
theorem dX2_goOn_86 : decode cX2_goOn 86 = .ok (.iload_n 1, 1) := by decide +kernel
theorem dX2_goOn_87 : decode cX2_goOn 87 = .ok (.dup2, 1) := by decide +kernel
theorem dX2_goOn_88 : decode cX2_goOn 88 = .ok (.iaload, 1) := by decide +kernel
theorem dX2_goOn_89 : decode cX2_goOn 89 = .ok (.iconst 1, 1) := by decide +kernel
theorem dX2_goOn_90 : decode cX2_goOn 90 = .ok (.iadd, 1) := by decide +kernel
theorem dX2_goOn_91 : decode cX2_goOn 91 = .ok (.iastore, 1) := by decide +kernel
theorem dX2_goOn_92 : decode cX2_goOn 92 = .ok (.iinc 1 1, 3) := by decide +kernel
theorem dX2_goOn_95 : decode cX2_goOn 95 = .ok (.goto (-47), 3) := by decide +kernel
theorem dX2_goOn_98 : decode cX2_goOn 98 = .ok (.aload_n 0, 1) := by decide +kernel
theorem dX2_goOn_99 : decode cX2_goOn 99 = .ok (.dup, 1) := by decide +kernel
theorem dX2_goOn_100 : decode cX2_goOn 100 = .ok (.getfield 42, 3) := by decide +kernel
theorem dX2_goOn_103 : decode cX2_goOn 103 = .ok (.iconst 1, 1) := by decide +kernel
theorem dX2_goOn_104 : decode cX2_goOn 104 = .ok (.iadd, 1) := by decide +kernel
theorem dX2_goOn_105 : decode cX2_goOn 105 = .ok (.putfield 42, 3) := by decide +kernel
theorem dX2_goOn_108 : decode cX2_goOn 108 = .ok (.return_, 1) := by decide +kernel
theorem dX2_init_0 : decode cX2_init 0 = .ok (.aload_n 0, 1) := by decide +kernel
theorem dX2_init_1 : decode cX2_init 1 = .ok (.invokespecial 3, 3) := by decide +kernel
theorem dX2_init_4 : decode cX2_init 4 = .ok (.aload_n 0, 1) := by decide +kernel
theorem dX2_init_5 : decode cX2_init 5 = .ok (.aload_n 1, 1) := by decide +kernel
theorem dX2_init_6 : decode cX2_init 6 = .ok (.putfield 9, 3) := by decide +kernel
theorem dX2_init_9 : decode cX2_init 9 = .ok (.aload_n 0, 1) := by decide +kernel
theorem dX2_init_10 : decode cX2_init 10 = .ok (.aload_n 2, 1) := by decide +kernel
theorem dX2_init_11 : decode cX2_init 11 = .ok (.putfield 15, 3) := by decide +kernel
theorem dX2_init_14 : decode cX2_init 14 = .ok (.aload_n 0, 1) := by decide +kernel
theorem dX2_init_15 : decode cX2_init 15 = .ok (.bipush 10, 2) := by decide +kernel
theorem dX2_init_17 : decode cX2_init 17 = .ok (.bipush 72, 2) := by decide +kernel
theorem dX2_init_19 : decode cX2_init 19 = .ok (.multianewarray 19 2, 4) := by decide +kernel
theorem dX2_init_23 : decode cX2_init 23 = .ok (.putfield 21, 3) := by decide +kernel
theorem dX2_init_26 : decode cX2_init 26 = .ok (.aload_n 0, 1) := by decide +kernel
theorem dX2_init_27 : decode cX2_init 27 = .ok (.bipush 8, 2) := by decide +kernel
theorem dX2_init_29 : decode cX2_init 29 = .ok (.newarray .int, 2) := by decide +kernel
theorem dX2_init_31 : decode cX2_init 31 = .ok (.putfield 26, 3) := by decide +kernel
theorem dX2_init_34 : decode cX2_init 34 = .ok (.aload_n 0, 1) := by decide +kernel
theorem dX2_init_35 : decode cX2_init 35 = .ok (.bipush 11, 2) := by decide +kernel
theorem dX2_init_37 : decode cX2_init 37 = .ok (.newarray .int, 2) := by decide +kernel
theorem dX2_init_39 : decode cX2_init 39 = .ok (.putfield 30, 3) := by decide +kernel
theorem dX2_init_42 : decode cX2_init 42 = .ok (.aload_n 0, 1) := by decide +kernel
theorem dX2_init_43 : decode cX2_init 43 = .ok (.bipush 11, 2) := by decide +kernel
theorem dX2_init_45 : decode cX2_init 45 = .ok (.newarray .int, 2) := by decide +kernel
theorem dX2_init_47 : decode cX2_init 47 = .ok (.putfield 33, 3) := by decide +kernel
theorem dX2_init_50 : decode cX2_init 50 = .ok (.aload_n 0, 1) := by decide +kernel
theorem dX2_init_51 : decode cX2_init 51 = .ok (.bipush 11, 2) := by decide +kernel
theorem dX2_init_53 : decode cX2_init 53 = .ok (.newarray .int, 2) := by decide +kernel
theorem dX2_init_55 : decode cX2_init 55 = .ok (.putfield 36, 3) := by decide +kernel
theorem dX2_init_58 : decode cX2_init 58 = .ok (.aload_n 0, 1) := by decide +kernel
theorem dX2_init_59 : decode cX2_init 59 = .ok (.bipush 11, 2) := by decide +kernel
theorem dX2_init_61 : decode cX2_init 61 = .ok (.newarray .int, 2) := by decide +kernel
theorem dX2_init_63 : decode cX2_init 63 = .ok (.putfield 39, 3) := by decide +kernel
theorem dX2_init_66 : decode cX2_init 66 = .ok (.return_, 1) := by decide +kernel
theorem dX2_leaveCart_0 : decode cX2_leaveCart 0 = .ok (.aload_n 0, 1) := by decide +kernel
theorem dX2_leaveCart_1 : decode cX2_leaveCart 1 = .ok (.getfield 21, 3) := by decide +kernel
theorem dX2_leaveCart_4 : decode cX2_leaveCart 4 = .ok (.bipush 6, 2) := by decide +kernel
theorem dX2_leaveCart_6 : decode cX2_leaveCart 6 = .ok (.aaload, 1) := by decide +kernel
theorem dX2_leaveCart_7 : decode cX2_leaveCart 7 = .ok (.iload_n 1, 1) := by decide +kernel
theorem dX2_leaveCart_8 : decode cX2_leaveCart 8 = .ok (.iaload, 1) := by decide +kernel
theorem dX2_leaveCart_9 : decode cX2_leaveCart 9 = .ok (.istore_n 2, 1) := by decide +kernel
theorem dX2_leaveCart_10 : decode cX2_leaveCart 10 = .ok (.iload_n 2, 1) := by decide +kernel
theorem dX2_leaveCart_11 : decode cX2_leaveCart 11 = .ok (.ifCond .lt 17, 3) := by decide +kernel
theorem dX2_leaveCart_14 : decode cX2_leaveCart 14 = .ok (.iload_n 2, 1) := by decide +kernel
theorem dX2_leaveCart_15 : decode cX2_leaveCart 15 = .ok (.bipush 8, 2) := by decide +kernel
theorem dX2_leaveCart_17 : decode cX2_leaveCart 17 = .ok (.if_icmp .ge 11, 3) := by decide +kernel
theorem dX2_leaveCart_20 : decode cX2_leaveCart 20 = .ok (.aload_n 0, 1) := by decide +kernel
theorem dX2_leaveCart_21 : decode cX2_leaveCart 21 = .ok (.getfield 26, 3) := by decide +kernel
theorem dX2_leaveCart_24 : decode cX2_leaveCart 24 = .ok (.iload_n 2, 1) := by decide +kernel
theorem dX2_leaveCart_25 : decode cX2_leaveCart 25 = .ok (.bipush (-2), 2) := by decide +kernel
theorem dX2_leaveCart_27 : decode cX2_leaveCart 27 = .ok (.iastore, 1) := by decide +kernel
theorem dX2_leaveCart_28 : decode cX2_leaveCart 28 = .ok (.aload_n 0, 1) := by decide +kernel
theorem dX2_leaveCart_29 : decode cX2_leaveCart 29 = .ok (.getfield 21, 3) := by decide +kernel
theorem dX2_leaveCart_32 : decode cX2_leaveCart 32 = .ok (.bipush 6, 2) := by decide +kernel
theorem dX2_leaveCart_34 : decode cX2_leaveCart 34 = .ok (.aaload, 1) := by decide +kernel
theorem dX2_leaveCart_35 : decode cX2_leaveCart 35 = .ok (.iload_n 1, 1) := by decide +kernel
theorem dX2_leaveCart_36 : decode cX2_leaveCart 36 = .ok (.bipush (-2), 2) := by decide +kernel
theorem dX2_leaveCart_38 : decode cX2_leaveCart 38 = .ok (.iastore, 1) := by decide +kernel
theorem dX2_leaveCart_39 : decode cX2_leaveCart 39 = .ok (.aload_n 0, 1) := by decide +kernel
theorem dX2_leaveCart_40 : decode cX2_leaveCart 40 = .ok (.getfield 21, 3) := by decide +kernel
theorem dX2_leaveCart_43 : decode cX2_leaveCart 43 = .ok (.iconst 2, 1) := by decide +kernel
theorem dX2_leaveCart_44 : decode cX2_leaveCart 44 = .ok (.aaload, 1) := by decide +kernel
theorem dX2_leaveCart_45 : decode cX2_leaveCart 45 = .ok (.iload_n 1, 1) := by decide +kernel
theorem dX2_leaveCart_46 : decode cX2_leaveCart 46 = .ok (.aload_n 0, 1) := by decide +kernel
theorem dX2_leaveCart_47 : decode cX2_leaveCart 47 = .ok (.iload_n 1, 1) := by decide +kernel
theorem dX2_leaveCart_48 : decode cX2_leaveCart 48 = .ok (.invokevirtual 112, 3) := by decide +kernel
theorem dX2_leaveCart_51 : decode cX2_leaveCart 51 = .ok (.iastore, 1) := by decide +kernel
theorem dX2_leaveCart_52 : decode cX2_leaveCart 52 = .ok (.aload_n 0, 1) := by decide +kernel
theorem dX2_leaveCart_53 : decode cX2_leaveCart 53 = .ok (.iload_n 1, 1) := by decide +kernel
theorem dX2_leaveCart_54 : decode cX2_leaveCart 54 = .ok (.invokevirtual 115, 3) := by decide +kernel
theorem dX2_leaveCart_57 : decode cX2_leaveCart 57 = .ok (.return_, 1) := by decide +kernel
theorem dX2_leaveGate_0 : decode cX2_leaveGate 0 = .ok (.aload_n 0, 1) := by decide +kernel
theorem dX2_leaveGate_1 : decode cX2_leaveGate 1 = .ok (.iload_n 1, 1) := by decide +kernel
theorem dX2_leaveGate_2 : decode cX2_leaveGate 2 = .ok (.invokevirtual 100, 3) := by decide +kernel
theorem dX2_leaveGate_5 : decode cX2_leaveGate 5 = .ok (.istore_n 2, 1) := by decide +kernel
theorem dX2_leaveGate_6 : decode cX2_leaveGate 6 = .ok (.iload_n 2, 1) := by decide +kernel
theorem dX2_leaveGate_7 : decode cX2_leaveGate 7 = .ok (.iconst (-1), 1) := by decide +kernel
theorem dX2_leaveGate_8 : decode cX2_leaveGate 8 = .ok (.if_icmp .ne 4, 3) := by decide +kernel
theorem dX2_leaveGate_11 : decode cX2_leaveGate 11 = .ok (.return_, 1) := by decide +kernel
theorem dX2_leaveGate_12 : decode cX2_leaveGate 12 = .ok (.aload_n 0, 1) := by decide +kernel
theorem dX2_leaveGate_13 : decode cX2_leaveGate 13 = .ok (.getfield 9, 3) := by decide +kernel
theorem dX2_leaveGate_16 : decode cX2_leaveGate 16 = .ok (.getfield 104, 3) := by decide +kernel
theorem dX2_leaveGate_19 : decode cX2_leaveGate 19 = .ok (.iload_n 2, 1) := by decide +kernel
theorem dX2_leaveGate_20 : decode cX2_leaveGate 20 = .ok (.aaload, 1) := by decide +kernel
theorem dX2_leaveGate_21 : decode cX2_leaveGate 21 = .ok (.iconst 0, 1) := by decide +kernel
theorem dX2_leaveGate_22 : decode cX2_leaveGate 22 = .ok (.iaload, 1) := by decide +kernel
theorem dX2_leaveGate_23 : decode cX2_leaveGate 23 = .ok (.istore_n 3, 1) := by decide +kernel
theorem dX2_leaveGate_24 : decode cX2_leaveGate 24 = .ok (.aload_n 0, 1) := by decide +kernel
theorem dX2_leaveGate_25 : decode cX2_leaveGate 25 = .ok (.getfield 30, 3) := by decide +kernel
theorem dX2_leaveGate_28 : decode cX2_leaveGate 28 = .ok (.iload_n 2, 1) := by decide +kernel
theorem dX2_leaveGate_29 : decode cX2_leaveGate 29 = .ok (.bipush (-2), 2) := by decide +kernel
theorem dX2_leaveGate_31 : decode cX2_leaveGate 31 = .ok (.iastore, 1) := by decide +kernel
theorem dX2_leaveGate_32 : decode cX2_leaveGate 32 = .ok (.aload_n 0, 1) := by decide +kernel
theorem dX2_leaveGate_33 : decode cX2_leaveGate 33 = .ok (.getfield 21, 3) := by decide +kernel
theorem dX2_leaveGate_36 : decode cX2_leaveGate 36 = .ok (.iconst 1, 1) := by decide +kernel
theorem dX2_leaveGate_37 : decode cX2_leaveGate 37 = .ok (.aaload, 1) := by decide +kernel
theorem dX2_leaveGate_38 : decode cX2_leaveGate 38 = .ok (.iload_n 1, 1) := by decide +kernel
theorem dX2_leaveGate_39 : decode cX2_leaveGate 39 = .ok (.aload_n 0, 1) := by decide +kernel
theorem dX2_leaveGate_40 : decode cX2_leaveGate 40 = .ok (.getfield 21, 3) := by decide +kernel
theorem dX2_leaveGate_43 : decode cX2_leaveGate 43 = .ok (.iconst 1, 1) := by decide +kernel
theorem dX2_leaveGate_44 : decode cX2_leaveGate 44 = .ok (.aaload, 1) := by decide +kernel
theorem dX2_leaveGate_45 : decode cX2_leaveGate 45 = .ok (.iload_n 1, 1) := by decide +kernel
theorem dX2_leaveGate_46 : decode cX2_leaveGate 46 = .ok (.iaload, 1) := by decide +kernel
theorem dX2_leaveGate_47 : decode cX2_leaveGate 47 = .ok (.iload_n 3, 1) := by decide +kernel
theorem dX2_leaveGate_48 : decode cX2_leaveGate 48 = .ok (.if_icmp .ne 9, 3) := by decide +kernel
theorem dX2_leaveGate_51 : decode cX2_leaveGate 51 = .ok (.iload_n 3, 1) := by decide +kernel
theorem dX2_leaveGate_52 : decode cX2_leaveGate 52 = .ok (.iconst 1, 1) := by decide +kernel
theorem dX2_leaveGate_53 : decode cX2_leaveGate 53 = .ok (.iadd, 1) := by decide +kernel
theorem dX2_leaveGate_54 : decode cX2_leaveGate 54 = .ok (.goto 4, 3) := by decide +kernel
theorem dX2_leaveGate_57 : decode cX2_leaveGate 57 = .ok (.iload_n 3, 1) := by decide +kernel
theorem dX2_leaveGate_58 : decode cX2_leaveGate 58 = .ok (.iastore, 1) := by decide +kernel
theorem dX2_leaveGate_59 : decode cX2_leaveGate 59 = .ok (.aload_n 0, 1) := by decide +kernel
theorem dX2_leaveGate_60 : decode cX2_leaveGate 60 = .ok (.getfield 21, 3) := by decide +kernel
theorem dX2_leaveGate_63 : decode cX2_leaveGate 63 = .ok (.bipush 8, 2) := by decide +kernel
theorem dX2_leaveGate_65 : decode cX2_leaveGate 65 = .ok (.aaload, 1) := by decide +kernel
theorem dX2_leaveGate_66 : decode cX2_leaveGate 66 = .ok (.iload_n 1, 1) := by decide +kernel
theorem dX2_leaveGate_67 : decode cX2_leaveGate 67 = .ok (.dup2, 1) := by decide +kernel
theorem dX2_leaveGate_68 : decode cX2_leaveGate 68 = .ok (.iaload, 1) := by decide +kernel
theorem dX2_leaveGate_69 : decode cX2_leaveGate 69 = .ok (.iconst 1, 1) := by decide +kernel
theorem dX2_leaveGate_70 : decode cX2_leaveGate 70 = .ok (.iadd, 1) := by decide +kernel
theorem dX2_leaveGate_71 : decode cX2_leaveGate 71 = .ok (.iastore, 1) := by decide +kernel
theorem dX2_leaveGate_72 : decode cX2_leaveGate 72 = .ok (.aload_n 0, 1) := by decide +kernel
theorem dX2_leaveGate_73 : decode cX2_leaveGate 73 = .ok (.getfield 21, 3) := by decide +kernel
theorem dX2_leaveGate_76 : decode cX2_leaveGate 76 = .ok (.iconst 3, 1) := by decide +kernel
theorem dX2_leaveGate_77 : decode cX2_leaveGate 77 = .ok (.aaload, 1) := by decide +kernel
theorem dX2_leaveGate_78 : decode cX2_leaveGate 78 = .ok (.iload_n 1, 1) := by decide +kernel
theorem dX2_leaveGate_79 : decode cX2_leaveGate 79 = .ok (.iconst 1, 1) := by decide +kernel
theorem dX2_leaveGate_80 : decode cX2_leaveGate 80 = .ok (.iastore, 1) := by decide +kernel
theorem dX2_leaveGate_81 : decode cX2_leaveGate 81 = .ok (.aload_n 0, 1) := by decide +kernel
theorem dX2_leaveGate_82 : decode cX2_leaveGate 82 = .ok (.iload_n 1, 1) := by decide +kernel
theorem dX2_leaveGate_83 : decode cX2_leaveGate 83 = .ok (.invokevirtual 100, 3) := by decide +kernel
theorem dX2_leaveGate_86 : decode cX2_leaveGate 86 = .ok (.iconst (-1), 1) := by decide +kernel
theorem dX2_leaveGate_87 : decode cX2_leaveGate 87 = .ok (.if_icmp .ne 24, 3) := by decide +kernel
theorem dX2_leaveGate_90 : decode cX2_leaveGate 90 = .ok (.aload_n 0, 1) := by decide +kernel
theorem dX2_leaveGate_91 : decode cX2_leaveGate 91 = .ok (.getfield 21, 3) := by decide +kernel
theorem dX2_leaveGate_94 : decode cX2_leaveGate 94 = .ok (.iconst 2, 1) := by decide +kernel
theorem dX2_leaveGate_95 : decode cX2_leaveGate 95 = .ok (.aaload, 1) := by decide +kernel
theorem dX2_leaveGate_96 : decode cX2_leaveGate 96 = .ok (.iload_n 1, 1) := by decide +kernel
theorem dX2_leaveGate_97 : decode cX2_leaveGate 97 = .ok (.iaload, 1) := by decide +kernel
theorem dX2_leaveGate_98 : decode cX2_leaveGate 98 = .ok (.aload_n 0, 1) := by decide +kernel
theorem dX2_leaveGate_99 : decode cX2_leaveGate 99 = .ok (.iload_n 1, 1) := by decide +kernel
theorem dX2_leaveGate_100 : decode cX2_leaveGate 100 = .ok (.invokevirtual 112, 3) := by decide +kernel
theorem dX2_leaveGate_103 : decode cX2_leaveGate 103 = .ok (.if_icmp .ne 8, 3) := by decide +kernel
theorem dX2_leaveGate_106 : decode cX2_leaveGate 106 = .ok (.aload_n 0, 1) := by decide +kernel
theorem dX2_leaveGate_107 : decode cX2_leaveGate 107 = .ok (.iload_n 1, 1) := by decide +kernel
theorem dX2_leaveGate_108 : decode cX2_leaveGate 108 = .ok (.invokevirtual 115, 3) := by decide +kernel
theorem dX2_leaveGate_111 : decode cX2_leaveGate 111 = .ok (.return_, 1) := by decide +kernel
theorem dX2_loadOver_0 : decode cX2_loadOver 0 = .ok (.aload_n 0, 1) := by decide +kernel
theorem dX2_loadOver_1 : decode cX2_loadOver 1 = .ok (.getfield 9, 3) := by decide +kernel
theorem dX2_loadOver_4 : decode cX2_loadOver 4 = .ok (.aload_n 0, 1) := by decide +kernel
theorem dX2_loadOver_5 : decode cX2_loadOver 5 = .ok (.iload_n 1, 1) := by decide +kernel
theorem dX2_loadOver_6 : decode cX2_loadOver 6 = .ok (.invokevirtual 123, 3) := by decide +kernel
theorem dX2_loadOver_9 : decode cX2_loadOver 9 = .ok (.iload_n 2, 1) := by decide +kernel
theorem dX2_loadOver_10 : decode cX2_loadOver 10 = .ok (.invokevirtual 127, 3) := by decide +kernel
theorem dX2_loadOver_13 : decode cX2_loadOver 13 = .ok (.istore_n 3, 1) := by decide +kernel
theorem dX2_loadOver_14 : decode cX2_loadOver 14 = .ok (.aload_n 0, 1) := by decide +kernel
theorem dX2_loadOver_15 : decode cX2_loadOver 15 = .ok (.getfield 21, 3) := by decide +kernel
theorem dX2_loadOver_18 : decode cX2_loadOver 18 = .ok (.iconst 3, 1) := by decide +kernel
theorem dX2_loadOver_19 : decode cX2_loadOver 19 = .ok (.aaload, 1) := by decide +kernel
theorem dX2_loadOver_20 : decode cX2_loadOver 20 = .ok (.iload_n 1, 1) := by decide +kernel
theorem dX2_loadOver_21 : decode cX2_loadOver 21 = .ok (.iconst 4, 1) := by decide +kernel
theorem dX2_loadOver_22 : decode cX2_loadOver 22 = .ok (.iastore, 1) := by decide +kernel
theorem dX2_loadOver_23 : decode cX2_loadOver 23 = .ok (.aload_n 0, 1) := by decide +kernel
theorem dX2_loadOver_24 : decode cX2_loadOver 24 = .ok (.getfield 21, 3) := by decide +kernel
theorem dX2_loadOver_27 : decode cX2_loadOver 27 = .ok (.iconst 4, 1) := by decide +kernel
theorem dX2_loadOver_28 : decode cX2_loadOver 28 = .ok (.aaload, 1) := by decide +kernel
theorem dX2_loadOver_29 : decode cX2_loadOver 29 = .ok (.iload_n 1, 1) := by decide +kernel
theorem dX2_loadOver_30 : decode cX2_loadOver 30 = .ok (.iload_n 3, 1) := by decide +kernel
theorem dX2_loadOver_31 : decode cX2_loadOver 31 = .ok (.iastore, 1) := by decide +kernel
theorem dX2_loadOver_32 : decode cX2_loadOver 32 = .ok (.aload_n 0, 1) := by decide +kernel
theorem dX2_loadOver_33 : decode cX2_loadOver 33 = .ok (.getfield 30, 3) := by decide +kernel
theorem dX2_loadOver_36 : decode cX2_loadOver 36 = .ok (.iload_n 2, 1) := by decide +kernel
theorem dX2_loadOver_37 : decode cX2_loadOver 37 = .ok (.iload_n 1, 1) := by decide +kernel
theorem dX2_loadOver_38 : decode cX2_loadOver 38 = .ok (.iastore, 1) := by decide +kernel
theorem dX2_loadOver_39 : decode cX2_loadOver 39 = .ok (.aload_n 0, 1) := by decide +kernel
theorem dX2_loadOver_40 : decode cX2_loadOver 40 = .ok (.getfield 33, 3) := by decide +kernel
theorem dX2_loadOver_43 : decode cX2_loadOver 43 = .ok (.iload_n 2, 1) := by decide +kernel
theorem dX2_loadOver_44 : decode cX2_loadOver 44 = .ok (.dup2, 1) := by decide +kernel
theorem dX2_loadOver_45 : decode cX2_loadOver 45 = .ok (.iaload, 1) := by decide +kernel
theorem dX2_loadOver_46 : decode cX2_loadOver 46 = .ok (.aload_n 0, 1) := by decide +kernel
theorem dX2_loadOver_47 : decode cX2_loadOver 47 = .ok (.getfield 9, 3) := by decide +kernel
theorem dX2_loadOver_50 : decode cX2_loadOver 50 = .ok (.getfield 104, 3) := by decide +kernel
theorem dX2_loadOver_53 : decode cX2_loadOver 53 = .ok (.iload_n 2, 1) := by decide +kernel
theorem dX2_loadOver_54 : decode cX2_loadOver 54 = .ok (.aaload, 1) := by decide +kernel
theorem dX2_loadOver_55 : decode cX2_loadOver 55 = .ok (.iconst 5, 1) := by decide +kernel
theorem dX2_loadOver_56 : decode cX2_loadOver 56 = .ok (.iaload, 1) := by decide +kernel
theorem dX2_loadOver_57 : decode cX2_loadOver 57 = .ok (.iadd, 1) := by decide +kernel
theorem dX2_loadOver_58 : decode cX2_loadOver 58 = .ok (.iastore, 1) := by decide +kernel
theorem dX2_loadOver_59 : decode cX2_loadOver 59 = .ok (.aload_n 0, 1) := by decide +kernel
theorem dX2_loadOver_60 : decode cX2_loadOver 60 = .ok (.getfield 36, 3) := by decide +kernel
theorem dX2_loadOver_63 : decode cX2_loadOver 63 = .ok (.iload_n 2, 1) := by decide +kernel
theorem dX2_loadOver_64 : decode cX2_loadOver 64 = .ok (.dup2, 1) := by decide +kernel
theorem dX2_loadOver_65 : decode cX2_loadOver 65 = .ok (.iaload, 1) := by decide +kernel
theorem dX2_loadOver_66 : decode cX2_loadOver 66 = .ok (.iload_n 3, 1) := by decide +kernel
theorem dX2_loadOver_67 : decode cX2_loadOver 67 = .ok (.aload_n 0, 1) := by decide +kernel
theorem dX2_loadOver_68 : decode cX2_loadOver 68 = .ok (.getfield 9, 3) := by decide +kernel
theorem dX2_loadOver_71 : decode cX2_loadOver 71 = .ok (.getfield 104, 3) := by decide +kernel
theorem dX2_loadOver_74 : decode cX2_loadOver 74 = .ok (.iload_n 2, 1) := by decide +kernel
theorem dX2_loadOver_75 : decode cX2_loadOver 75 = .ok (.aaload, 1) := by decide +kernel
theorem dX2_loadOver_76 : decode cX2_loadOver 76 = .ok (.iconst 4, 1) := by decide +kernel
theorem dX2_loadOver_77 : decode cX2_loadOver 77 = .ok (.iaload, 1) := by decide +kernel
theorem dX2_loadOver_78 : decode cX2_loadOver 78 = .ok (.imul, 1) := by decide +kernel
theorem dX2_loadOver_79 : decode cX2_loadOver 79 = .ok (.iadd, 1) := by decide +kernel
theorem dX2_loadOver_80 : decode cX2_loadOver 80 = .ok (.iastore, 1) := by decide +kernel
theorem dX2_loadOver_81 : decode cX2_loadOver 81 = .ok (.return_, 1) := by decide +kernel
theorem dX2_placeAhead_0 : decode cX2_placeAhead 0 = .ok (.aload_n 0, 1) := by decide +kernel
theorem dX2_placeAhead_1 : decode cX2_placeAhead 1 = .ok (.iload_n 1, 1) := by decide +kernel
theorem dX2_placeAhead_2 : decode cX2_placeAhead 2 = .ok (.invokevirtual 100, 3) := by decide +kernel
theorem dX2_placeAhead_5 : decode cX2_placeAhead 5 = .ok (.istore_n 2, 1) := by decide +kernel
theorem dX2_placeAhead_6 : decode cX2_placeAhead 6 = .ok (.iload_n 2, 1) := by decide +kernel
theorem dX2_placeAhead_7 : decode cX2_placeAhead 7 = .ok (.iconst (-1), 1) := by decide +kernel
theorem dX2_placeAhead_8 : decode cX2_placeAhead 8 = .ok (.if_icmp .ne 24, 3) := by decide +kernel
theorem dX2_placeAhead_11 : decode cX2_placeAhead 11 = .ok (.aload_n 0, 1) := by decide +kernel
theorem dX2_placeAhead_12 : decode cX2_placeAhead 12 = .ok (.getfield 9, 3) := by decide +kernel
theorem dX2_placeAhead_15 : decode cX2_placeAhead 15 = .ok (.getfield 69, 3) := by decide +kernel
theorem dX2_placeAhead_18 : decode cX2_placeAhead 18 = .ok (.aload_n 0, 1) := by decide +kernel
theorem dX2_placeAhead_19 : decode cX2_placeAhead 19 = .ok (.getfield 21, 3) := by decide +kernel
theorem dX2_placeAhead_22 : decode cX2_placeAhead 22 = .ok (.iconst 0, 1) := by decide +kernel
theorem dX2_placeAhead_23 : decode cX2_placeAhead 23 = .ok (.aaload, 1) := by decide +kernel
theorem dX2_placeAhead_24 : decode cX2_placeAhead 24 = .ok (.iload_n 1, 1) := by decide +kernel
theorem dX2_placeAhead_25 : decode cX2_placeAhead 25 = .ok (.iaload, 1) := by decide +kernel
theorem dX2_placeAhead_26 : decode cX2_placeAhead 26 = .ok (.aaload, 1) := by decide +kernel
theorem dX2_placeAhead_27 : decode cX2_placeAhead 27 = .ok (.iconst 4, 1) := by decide +kernel
theorem dX2_placeAhead_28 : decode cX2_placeAhead 28 = .ok (.iaload, 1) := by decide +kernel
theorem dX2_placeAhead_29 : decode cX2_placeAhead 29 = .ok (.goto 14, 3) := by decide +kernel
theorem dX2_placeAhead_32 : decode cX2_placeAhead 32 = .ok (.aload_n 0, 1) := by decide +kernel
theorem dX2_placeAhead_33 : decode cX2_placeAhead 33 = .ok (.getfield 9, 3) := by decide +kernel
theorem dX2_placeAhead_36 : decode cX2_placeAhead 36 = .ok (.getfield 104, 3) := by decide +kernel
theorem dX2_placeAhead_39 : decode cX2_placeAhead 39 = .ok (.iload_n 2, 1) := by decide +kernel
theorem dX2_placeAhead_40 : decode cX2_placeAhead 40 = .ok (.aaload, 1) := by decide +kernel
theorem dX2_placeAhead_41 : decode cX2_placeAhead 41 = .ok (.iconst 1, 1) := by decide +kernel
theorem dX2_placeAhead_42 : decode cX2_placeAhead 42 = .ok (.iaload, 1) := by decide +kernel
theorem dX2_placeAhead_43 : decode cX2_placeAhead 43 = .ok (.ireturn, 1) := by decide +kernel
theorem dX2_serveGates_0 : decode cX2_serveGates 0 = .ok (.aload_n 0, 1) := by decide +kernel
theorem dX2_serveGates_1 : decode cX2_serveGates 1 = .ok (.getfield 39, 3) := by decide +kernel
theorem dX2_serveGates_4 : decode cX2_serveGates 4 = .ok (.iconst (-1), 1) := by decide +kernel
theorem dX2_serveGates_5 : decode cX2_serveGates 5 = .ok (.invokestatic 49, 3) := by decide +kernel
theorem dX2_serveGates_8 : decode cX2_serveGates 8 = .ok (.iconst 0, 1) := by decide +kernel
theorem dX2_serveGates_9 : decode cX2_serveGates 9 = .ok (.istore_n 1, 1) := by decide +kernel
theorem dX2_serveGates_10 : decode cX2_serveGates 10 = .ok (.iload_n 1, 1) := by decide +kernel
theorem dX2_serveGates_11 : decode cX2_serveGates 11 = .ok (.aload_n 0, 1) := by decide +kernel
theorem dX2_serveGates_12 : decode cX2_serveGates 12 = .ok (.getfield 46, 3) := by decide +kernel
theorem dX2_serveGates_15 : decode cX2_serveGates 15 = .ok (.if_icmp .ge 79, 3) := by decide +kernel
theorem dX2_serveGates_18 : decode cX2_serveGates 18 = .ok (.aload_n 0, 1) := by decide +kernel
theorem dX2_serveGates_19 : decode cX2_serveGates 19 = .ok (.getfield 21, 3) := by decide +kernel
theorem dX2_serveGates_22 : decode cX2_serveGates 22 = .ok (.iconst 3, 1) := by decide +kernel
theorem dX2_serveGates_23 : decode cX2_serveGates 23 = .ok (.aaload, 1) := by decide +kernel
theorem dX2_serveGates_24 : decode cX2_serveGates 24 = .ok (.iload_n 1, 1) := by decide +kernel
theorem dX2_serveGates_25 : decode cX2_serveGates 25 = .ok (.iaload, 1) := by decide +kernel
theorem dX2_serveGates_26 : decode cX2_serveGates 26 = .ok (.iconst 3, 1) := by decide +kernel
theorem dX2_serveGates_27 : decode cX2_serveGates 27 = .ok (.if_icmp .ne 11, 3) := by decide +kernel
theorem dX2_serveGates_30 : decode cX2_serveGates 30 = .ok (.aload_n 0, 1) := by decide +kernel
theorem dX2_serveGates_31 : decode cX2_serveGates 31 = .ok (.iload_n 1, 1) := by decide +kernel
theorem dX2_serveGates_32 : decode cX2_serveGates 32 = .ok (.invokevirtual 100, 3) := by decide +kernel
theorem dX2_serveGates_35 : decode cX2_serveGates 35 = .ok (.goto 4, 3) := by decide +kernel
theorem dX2_serveGates_38 : decode cX2_serveGates 38 = .ok (.iconst (-1), 1) := by decide +kernel
theorem dX2_serveGates_39 : decode cX2_serveGates 39 = .ok (.istore_n 2, 1) := by decide +kernel
theorem dX2_serveGates_40 : decode cX2_serveGates 40 = .ok (.iload_n 2, 1) := by decide +kernel
theorem dX2_serveGates_41 : decode cX2_serveGates 41 = .ok (.iconst (-1), 1) := by decide +kernel
theorem dX2_serveGates_42 : decode cX2_serveGates 42 = .ok (.if_icmp .eq 46, 3) := by decide +kernel
theorem dX2_serveGates_45 : decode cX2_serveGates 45 = .ok (.aload_n 0, 1) := by decide +kernel
theorem dX2_serveGates_46 : decode cX2_serveGates 46 = .ok (.getfield 39, 3) := by decide +kernel
theorem dX2_serveGates_49 : decode cX2_serveGates 49 = .ok (.iload_n 2, 1) := by decide +kernel
theorem dX2_serveGates_50 : decode cX2_serveGates 50 = .ok (.iaload, 1) := by decide +kernel
theorem dX2_serveGates_51 : decode cX2_serveGates 51 = .ok (.iconst (-1), 1) := by decide +kernel
theorem dX2_serveGates_52 : decode cX2_serveGates 52 = .ok (.if_icmp .eq 29, 3) := by decide +kernel
theorem dX2_serveGates_55 : decode cX2_serveGates 55 = .ok (.aload_n 0, 1) := by decide +kernel
theorem dX2_serveGates_56 : decode cX2_serveGates 56 = .ok (.getfield 21, 3) := by decide +kernel
theorem dX2_serveGates_59 : decode cX2_serveGates 59 = .ok (.bipush 9, 2) := by decide +kernel
theorem dX2_serveGates_61 : decode cX2_serveGates 61 = .ok (.aaload, 1) := by decide +kernel
theorem dX2_serveGates_62 : decode cX2_serveGates 62 = .ok (.iload_n 1, 1) := by decide +kernel
theorem dX2_serveGates_63 : decode cX2_serveGates 63 = .ok (.iaload, 1) := by decide +kernel
theorem dX2_serveGates_64 : decode cX2_serveGates 64 = .ok (.aload_n 0, 1) := by decide +kernel
theorem dX2_serveGates_65 : decode cX2_serveGates 65 = .ok (.getfield 21, 3) := by decide +kernel
theorem dX2_serveGates_68 : decode cX2_serveGates 68 = .ok (.bipush 9, 2) := by decide +kernel
theorem dX2_serveGates_70 : decode cX2_serveGates 70 = .ok (.aaload, 1) := by decide +kernel
theorem dX2_serveGates_71 : decode cX2_serveGates 71 = .ok (.aload_n 0, 1) := by decide +kernel
theorem dX2_serveGates_72 : decode cX2_serveGates 72 = .ok (.getfield 39, 3) := by decide +kernel
theorem dX2_serveGates_75 : decode cX2_serveGates 75 = .ok (.iload_n 2, 1) := by decide +kernel
theorem dX2_serveGates_76 : decode cX2_serveGates 76 = .ok (.iaload, 1) := by decide +kernel
theorem dX2_serveGates_77 : decode cX2_serveGates 77 = .ok (.iaload, 1) := by decide +kernel
theorem dX2_serveGates_78 : decode cX2_serveGates 78 = .ok (.if_icmp .ge 10, 3) := by decide +kernel
theorem dX2_serveGates_81 : decode cX2_serveGates 81 = .ok (.aload_n 0, 1) := by decide +kernel
theorem dX2_serveGates_82 : decode cX2_serveGates 82 = .ok (.getfield 39, 3) := by decide +kernel
theorem dX2_serveGates_85 : decode cX2_serveGates 85 = .ok (.iload_n 2, 1) := by decide +kernel
theorem dX2_serveGates_86 : decode cX2_serveGates 86 = .ok (.iload_n 1, 1) := by decide +kernel
theorem dX2_serveGates_87 : decode cX2_serveGates 87 = .ok (.iastore, 1) := by decide +kernel
theorem dX2_serveGates_88 : decode cX2_serveGates 88 = .ok (.iinc 1 1, 3) := by decide +kernel
theorem dX2_serveGates_91 : decode cX2_serveGates 91 = .ok (.goto (-81), 3) := by decide +kernel
theorem dX2_serveGates_94 : decode cX2_serveGates 94 = .ok (.iconst 0, 1) := by decide +kernel
theorem dX2_serveGates_95 : decode cX2_serveGates 95 = .ok (.istore_n 1, 1) := by decide +kernel
theorem dX2_serveGates_96 : decode cX2_serveGates 96 = .ok (.iload_n 1, 1) := by decide +kernel
theorem dX2_serveGates_97 : decode cX2_serveGates 97 = .ok (.aload_n 0, 1) := by decide +kernel
theorem dX2_serveGates_98 : decode cX2_serveGates 98 = .ok (.getfield 9, 3) := by decide +kernel
theorem dX2_serveGates_101 : decode cX2_serveGates 101 = .ok (.getfield 118, 3) := by decide +kernel
theorem dX2_serveGates_104 : decode cX2_serveGates 104 = .ok (.if_icmp .ge 41, 3) := by decide +kernel
theorem dX2_serveGates_107 : decode cX2_serveGates 107 = .ok (.aload_n 0, 1) := by decide +kernel
theorem dX2_serveGates_108 : decode cX2_serveGates 108 = .ok (.getfield 39, 3) := by decide +kernel
theorem dX2_serveGates_111 : decode cX2_serveGates 111 = .ok (.iload_n 1, 1) := by decide +kernel
theorem dX2_serveGates_112 : decode cX2_serveGates 112 = .ok (.iaload, 1) := by decide +kernel
theorem dX2_serveGates_113 : decode cX2_serveGates 113 = .ok (.iconst (-1), 1) := by decide +kernel
theorem dX2_serveGates_114 : decode cX2_serveGates 114 = .ok (.if_icmp .eq 25, 3) := by decide +kernel
theorem dX2_serveGates_117 : decode cX2_serveGates 117 = .ok (.aload_n 0, 1) := by decide +kernel
theorem dX2_serveGates_118 : decode cX2_serveGates 118 = .ok (.getfield 30, 3) := by decide +kernel
theorem dX2_serveGates_121 : decode cX2_serveGates 121 = .ok (.iload_n 1, 1) := by decide +kernel
theorem dX2_serveGates_122 : decode cX2_serveGates 122 = .ok (.iaload, 1) := by decide +kernel
theorem dX2_serveGates_123 : decode cX2_serveGates 123 = .ok (.bipush (-2), 2) := by decide +kernel
theorem dX2_serveGates_125 : decode cX2_serveGates 125 = .ok (.if_icmp .ne 14, 3) := by decide +kernel
theorem dX2_serveGates_128 : decode cX2_serveGates 128 = .ok (.aload_n 0, 1) := by decide +kernel
theorem dX2_serveGates_129 : decode cX2_serveGates 129 = .ok (.aload_n 0, 1) := by decide +kernel
theorem dX2_serveGates_130 : decode cX2_serveGates 130 = .ok (.getfield 39, 3) := by decide +kernel
theorem dX2_serveGates_133 : decode cX2_serveGates 133 = .ok (.iload_n 1, 1) := by decide +kernel
theorem dX2_serveGates_134 : decode cX2_serveGates 134 = .ok (.iaload, 1) := by decide +kernel
theorem dX2_serveGates_135 : decode cX2_serveGates 135 = .ok (.iload_n 1, 1) := by decide +kernel
theorem dX2_serveGates_136 : decode cX2_serveGates 136 = .ok (.invokevirtual 119, 3) := by decide +kernel
theorem dX2_serveGates_139 : decode cX2_serveGates 139 = .ok (.iinc 1 1, 3) := by decide +kernel
theorem dX2_serveGates_142 : decode cX2_serveGates 142 = .ok (.goto (-46), 3) := by decide +kernel
theorem dX2_serveGates_145 : decode cX2_serveGates 145 = .ok (.return_, 1) := by decide +kernel
theorem dX2_setOut_0 : decode cX2_setOut 0 = .ok (.aload_n 0, 1) := by decide +kernel
theorem dX2_setOut_1 : decode cX2_setOut 1 = .ok (.getfield 21, 3) := by decide +kernel
theorem dX2_setOut_4 : decode cX2_setOut 4 = .ok (.iconst 3, 1) := by decide +kernel
theorem dX2_setOut_5 : decode cX2_setOut 5 = .ok (.aaload, 1) := by decide +kernel
theorem dX2_setOut_6 : decode cX2_setOut 6 = .ok (.iload_n 1, 1) := by decide +kernel
theorem dX2_setOut_7 : decode cX2_setOut 7 = .ok (.iaload, 1) := by decide +kernel
theorem dX2_setOut_8 : decode cX2_setOut 8 = .ok (.ifCond .ne 37, 3) := by decide +kernel
theorem dX2_setOut_11 : decode cX2_setOut 11 = .ok (.aload_n 0, 1) := by decide +kernel
theorem dX2_setOut_12 : decode cX2_setOut 12 = .ok (.getfield 9, 3) := by decide +kernel
theorem dX2_setOut_15 : decode cX2_setOut 15 = .ok (.getfield 69, 3) := by decide +kernel
theorem dX2_setOut_18 : decode cX2_setOut 18 = .ok (.aload_n 0, 1) := by decide +kernel
theorem dX2_setOut_19 : decode cX2_setOut 19 = .ok (.getfield 21, 3) := by decide +kernel
theorem dX2_setOut_22 : decode cX2_setOut 22 = .ok (.iconst 0, 1) := by decide +kernel
theorem dX2_setOut_23 : decode cX2_setOut 23 = .ok (.aaload, 1) := by decide +kernel
theorem dX2_setOut_24 : decode cX2_setOut 24 = .ok (.iload_n 1, 1) := by decide +kernel
theorem dX2_setOut_25 : decode cX2_setOut 25 = .ok (.iaload, 1) := by decide +kernel
theorem dX2_setOut_26 : decode cX2_setOut 26 = .ok (.aaload, 1) := by decide +kernel
theorem dX2_setOut_27 : decode cX2_setOut 27 = .ok (.iconst 5, 1) := by decide +kernel
theorem dX2_setOut_28 : decode cX2_setOut 28 = .ok (.iaload, 1) := by decide +kernel
theorem dX2_setOut_29 : decode cX2_setOut 29 = .ok (.aload_n 0, 1) := by decide +kernel
theorem dX2_setOut_30 : decode cX2_setOut 30 = .ok (.getfield 42, 3) := by decide +kernel
theorem dX2_setOut_33 : decode cX2_setOut 33 = .ok (.if_icmp .ne 12, 3) := by decide +kernel
theorem dX2_setOut_36 : decode cX2_setOut 36 = .ok (.aload_n 0, 1) := by decide +kernel
theorem dX2_setOut_37 : decode cX2_setOut 37 = .ok (.getfield 21, 3) := by decide +kernel
theorem dX2_setOut_40 : decode cX2_setOut 40 = .ok (.iconst 3, 1) := by decide +kernel
theorem dX2_setOut_41 : decode cX2_setOut 41 = .ok (.aaload, 1) := by decide +kernel
theorem dX2_setOut_42 : decode cX2_setOut 42 = .ok (.iload_n 1, 1) := by decide +kernel
theorem dX2_setOut_43 : decode cX2_setOut 43 = .ok (.iconst 1, 1) := by decide +kernel
theorem dX2_setOut_44 : decode cX2_setOut 44 = .ok (.iastore, 1) := by decide +kernel
theorem dX2_setOut_45 : decode cX2_setOut 45 = .ok (.aload_n 0, 1) := by decide +kernel
theorem dX2_setOut_46 : decode cX2_setOut 46 = .ok (.getfield 21, 3) := by decide +kernel
theorem dX2_setOut_49 : decode cX2_setOut 49 = .ok (.iconst 3, 1) := by decide +kernel
theorem dX2_setOut_50 : decode cX2_setOut 50 = .ok (.aaload, 1) := by decide +kernel
theorem dX2_setOut_51 : decode cX2_setOut 51 = .ok (.iload_n 1, 1) := by decide +kernel
theorem dX2_setOut_52 : decode cX2_setOut 52 = .ok (.iaload, 1) := by decide +kernel
theorem dX2_setOut_53 : decode cX2_setOut 53 = .ok (.iconst 1, 1) := by decide +kernel
theorem dX2_setOut_54 : decode cX2_setOut 54 = .ok (.if_icmp .eq 4, 3) := by decide +kernel
theorem dX2_setOut_57 : decode cX2_setOut 57 = .ok (.return_, 1) := by decide +kernel
theorem dX2_setOut_58 : decode cX2_setOut 58 = .ok (.aload_n 0, 1) := by decide +kernel
theorem dX2_setOut_59 : decode cX2_setOut 59 = .ok (.getfield 21, 3) := by decide +kernel
theorem dX2_setOut_62 : decode cX2_setOut 62 = .ok (.iconst 2, 1) := by decide +kernel
theorem dX2_setOut_63 : decode cX2_setOut 63 = .ok (.aaload, 1) := by decide +kernel
theorem dX2_setOut_64 : decode cX2_setOut 64 = .ok (.iload_n 1, 1) := by decide +kernel
theorem dX2_setOut_65 : decode cX2_setOut 65 = .ok (.iaload, 1) := by decide +kernel
theorem dX2_setOut_66 : decode cX2_setOut 66 = .ok (.aload_n 0, 1) := by decide +kernel
theorem dX2_setOut_67 : decode cX2_setOut 67 = .ok (.iload_n 1, 1) := by decide +kernel
theorem dX2_setOut_68 : decode cX2_setOut 68 = .ok (.invokevirtual 112, 3) := by decide +kernel
theorem dX2_setOut_71 : decode cX2_setOut 71 = .ok (.invokestatic 131, 3) := by decide +kernel
theorem dX2_setOut_74 : decode cX2_setOut 74 = .ok (.istore_n 2, 1) := by decide +kernel
theorem dX2_setOut_75 : decode cX2_setOut 75 = .ok (.iload_n 2, 1) := by decide +kernel
theorem dX2_setOut_76 : decode cX2_setOut 76 = .ok (.ifCond .ne 11, 3) := by decide +kernel
theorem dX2_setOut_79 : decode cX2_setOut 79 = .ok (.aload_n 0, 1) := by decide +kernel
theorem dX2_setOut_80 : decode cX2_setOut 80 = .ok (.iload_n 1, 1) := by decide +kernel
theorem dX2_setOut_81 : decode cX2_setOut 81 = .ok (.invokevirtual 115, 3) := by decide +kernel
theorem dX2_setOut_84 : decode cX2_setOut 84 = .ok (.goto 9, 3) := by decide +kernel
theorem dX2_setOut_87 : decode cX2_setOut 87 = .ok (.aload_n 0, 1) := by decide +kernel
theorem dX2_setOut_88 : decode cX2_setOut 88 = .ok (.iload_n 1, 1) := by decide +kernel
theorem dX2_setOut_89 : decode cX2_setOut 89 = .ok (.iload_n 2, 1) := by decide +kernel
theorem dX2_setOut_90 : decode cX2_setOut 90 = .ok (.invokevirtual 135, 3) := by decide +kernel
theorem dX2_setOut_93 : decode cX2_setOut 93 = .ok (.return_, 1) := by decide +kernel
theorem dX2_takeCart_0 : decode cX2_takeCart 0 = .ok (.aload_n 0, 1) := by decide +kernel
theorem dX2_takeCart_1 : decode cX2_takeCart 1 = .ok (.iload_n 1, 1) := by decide +kernel
theorem dX2_takeCart_2 : decode cX2_takeCart 2 = .ok (.invokevirtual 123, 3) := by decide +kernel
theorem dX2_takeCart_5 : decode cX2_takeCart 5 = .ok (.astore_n 3, 1) := by decide +kernel
theorem dX2_takeCart_6 : decode cX2_takeCart 6 = .ok (.iconst 0, 1) := by decide +kernel
theorem dX2_takeCart_7 : decode cX2_takeCart 7 = .ok (.istore 4, 2) := by decide +kernel
theorem dX2_takeCart_9 : decode cX2_takeCart 9 = .ok (.iload 4, 2) := by decide +kernel
theorem dX2_takeCart_11 : decode cX2_takeCart 11 = .ok (.aload_n 0, 1) := by decide +kernel
theorem dX2_takeCart_12 : decode cX2_takeCart 12 = .ok (.getfield 9, 3) := by decide +kernel
theorem dX2_takeCart_15 : decode cX2_takeCart 15 = .ok (.getfield 138, 3) := by decide +kernel
theorem dX2_takeCart_18 : decode cX2_takeCart 18 = .ok (.if_icmp .ge 80, 3) := by decide +kernel
theorem dX2_takeCart_21 : decode cX2_takeCart 21 = .ok (.aload_n 0, 1) := by decide +kernel
theorem dX2_takeCart_22 : decode cX2_takeCart 22 = .ok (.getfield 26, 3) := by decide +kernel
theorem dX2_takeCart_25 : decode cX2_takeCart 25 = .ok (.iload 4, 2) := by decide +kernel
theorem dX2_takeCart_27 : decode cX2_takeCart 27 = .ok (.iaload, 1) := by decide +kernel
theorem dX2_takeCart_28 : decode cX2_takeCart 28 = .ok (.bipush (-2), 2) := by decide +kernel
theorem dX2_takeCart_30 : decode cX2_takeCart 30 = .ok (.if_icmp .ne 62, 3) := by decide +kernel
theorem dX2_takeCart_33 : decode cX2_takeCart 33 = .ok (.aload_n 0, 1) := by decide +kernel
theorem dX2_takeCart_34 : decode cX2_takeCart 34 = .ok (.getfield 9, 3) := by decide +kernel
theorem dX2_takeCart_37 : decode cX2_takeCart 37 = .ok (.aload_n 3, 1) := by decide +kernel
theorem dX2_takeCart_38 : decode cX2_takeCart 38 = .ok (.iload 4, 2) := by decide +kernel
theorem dX2_takeCart_40 : decode cX2_takeCart 40 = .ok (.aload_n 0, 1) := by decide +kernel
theorem dX2_takeCart_41 : decode cX2_takeCart 41 = .ok (.getfield 21, 3) := by decide +kernel
theorem dX2_takeCart_44 : decode cX2_takeCart 44 = .ok (.iconst 1, 1) := by decide +kernel
theorem dX2_takeCart_45 : decode cX2_takeCart 45 = .ok (.aaload, 1) := by decide +kernel
theorem dX2_takeCart_46 : decode cX2_takeCart 46 = .ok (.iload_n 1, 1) := by decide +kernel
theorem dX2_takeCart_47 : decode cX2_takeCart 47 = .ok (.iaload, 1) := by decide +kernel
theorem dX2_takeCart_48 : decode cX2_takeCart 48 = .ok (.invokevirtual 141, 3) := by decide +kernel
theorem dX2_takeCart_51 : decode cX2_takeCart 51 = .ok (.ifCond .eq 41, 3) := by decide +kernel
theorem dX2_takeCart_54 : decode cX2_takeCart 54 = .ok (.aload_n 0, 1) := by decide +kernel
theorem dX2_takeCart_55 : decode cX2_takeCart 55 = .ok (.getfield 26, 3) := by decide +kernel
theorem dX2_takeCart_58 : decode cX2_takeCart 58 = .ok (.iload 4, 2) := by decide +kernel
theorem dX2_takeCart_60 : decode cX2_takeCart 60 = .ok (.iload_n 1, 1) := by decide +kernel
theorem dX2_takeCart_61 : decode cX2_takeCart 61 = .ok (.iastore, 1) := by decide +kernel
theorem dX2_takeCart_62 : decode cX2_takeCart 62 = .ok (.aload_n 0, 1) := by decide +kernel
theorem dX2_takeCart_63 : decode cX2_takeCart 63 = .ok (.getfield 21, 3) := by decide +kernel
theorem dX2_takeCart_66 : decode cX2_takeCart 66 = .ok (.bipush 6, 2) := by decide +kernel
theorem dX2_takeCart_68 : decode cX2_takeCart 68 = .ok (.aaload, 1) := by decide +kernel
theorem dX2_takeCart_69 : decode cX2_takeCart 69 = .ok (.iload_n 1, 1) := by decide +kernel
theorem dX2_takeCart_70 : decode cX2_takeCart 70 = .ok (.iload 4, 2) := by decide +kernel
theorem dX2_takeCart_72 : decode cX2_takeCart 72 = .ok (.iastore, 1) := by decide +kernel
theorem dX2_takeCart_73 : decode cX2_takeCart 73 = .ok (.aload_n 0, 1) := by decide +kernel
theorem dX2_takeCart_74 : decode cX2_takeCart 74 = .ok (.getfield 21, 3) := by decide +kernel
theorem dX2_takeCart_77 : decode cX2_takeCart 77 = .ok (.iconst 3, 1) := by decide +kernel
theorem dX2_takeCart_78 : decode cX2_takeCart 78 = .ok (.aaload, 1) := by decide +kernel
theorem dX2_takeCart_79 : decode cX2_takeCart 79 = .ok (.iload_n 1, 1) := by decide +kernel
theorem dX2_takeCart_80 : decode cX2_takeCart 80 = .ok (.iconst 2, 1) := by decide +kernel
theorem dX2_takeCart_81 : decode cX2_takeCart 81 = .ok (.iastore, 1) := by decide +kernel
theorem dX2_takeCart_82 : decode cX2_takeCart 82 = .ok (.aload_n 0, 1) := by decide +kernel
theorem dX2_takeCart_83 : decode cX2_takeCart 83 = .ok (.getfield 21, 3) := by decide +kernel
theorem dX2_takeCart_86 : decode cX2_takeCart 86 = .ok (.iconst 4, 1) := by decide +kernel
theorem dX2_takeCart_87 : decode cX2_takeCart 87 = .ok (.aaload, 1) := by decide +kernel
theorem dX2_takeCart_88 : decode cX2_takeCart 88 = .ok (.iload_n 1, 1) := by decide +kernel
theorem dX2_takeCart_89 : decode cX2_takeCart 89 = .ok (.iload_n 2, 1) := by decide +kernel
theorem dX2_takeCart_90 : decode cX2_takeCart 90 = .ok (.iastore, 1) := by decide +kernel
theorem dX2_takeCart_91 : decode cX2_takeCart 91 = .ok (.return_, 1) := by decide +kernel
theorem dX2_takeCart_92 : decode cX2_takeCart 92 = .ok (.iinc 4 1, 3) := by decide +kernel
theorem dX2_takeCart_95 : decode cX2_takeCart 95 = .ok (.goto (-86), 3) := by decide +kernel
theorem dX2_takeCart_98 : decode cX2_takeCart 98 = .ok (.return_, 1) := by decide +kernel
theorem dX2_thingOf_0 : decode cX2_thingOf 0 = .ok (.aload_n 0, 1) := by decide +kernel
theorem dX2_thingOf_1 : decode cX2_thingOf 1 = .ok (.getfield 21, 3) := by decide +kernel
theorem dX2_thingOf_4 : decode cX2_thingOf 4 = .ok (.iconst 0, 1) := by decide +kernel
theorem dX2_thingOf_5 : decode cX2_thingOf 5 = .ok (.aaload, 1) := by decide +kernel
theorem dX2_thingOf_6 : decode cX2_thingOf 6 = .ok (.iload_n 1, 1) := by decide +kernel
theorem dX2_thingOf_7 : decode cX2_thingOf 7 = .ok (.iaload, 1) := by decide +kernel
theorem dX2_thingOf_8 : decode cX2_thingOf 8 = .ok (.istore_n 2, 1) := by decide +kernel
theorem dX2_thingOf_9 : decode cX2_thingOf 9 = .ok (.aload_n 0, 1) := by decide +kernel
theorem dX2_thingOf_10 : decode cX2_thingOf 10 = .ok (.getfield 9, 3) := by decide +kernel
theorem dX2_thingOf_13 : decode cX2_thingOf 13 = .ok (.aload_n 0, 1) := by decide +kernel
theorem dX2_thingOf_14 : decode cX2_thingOf 14 = .ok (.getfield 9, 3) := by decide +kernel
theorem dX2_thingOf_17 : decode cX2_thingOf 17 = .ok (.getfield 69, 3) := by decide +kernel
theorem dX2_thingOf_20 : decode cX2_thingOf 20 = .ok (.iload_n 2, 1) := by decide +kernel
theorem dX2_thingOf_21 : decode cX2_thingOf 21 = .ok (.aaload, 1) := by decide +kernel
theorem dX2_thingOf_22 : decode cX2_thingOf 22 = .ok (.iconst 0, 1) := by decide +kernel
theorem dX2_thingOf_23 : decode cX2_thingOf 23 = .ok (.iaload, 1) := by decide +kernel
theorem dX2_thingOf_24 : decode cX2_thingOf 24 = .ok (.aload_n 0, 1) := by decide +kernel
theorem dX2_thingOf_25 : decode cX2_thingOf 25 = .ok (.getfield 15, 3) := by decide +kernel
theorem dX2_thingOf_28 : decode cX2_thingOf 28 = .ok (.iload_n 2, 1) := by decide +kernel
theorem dX2_thingOf_29 : decode cX2_thingOf 29 = .ok (.aaload, 1) := by decide +kernel
theorem dX2_thingOf_30 : decode cX2_thingOf 30 = .ok (.getfield 87, 3) := by decide +kernel
theorem dX2_thingOf_33 : decode cX2_thingOf 33 = .ok (.invokevirtual 90, 3) := by decide +kernel
theorem dX2_thingOf_36 : decode cX2_thingOf 36 = .ok (.areturn, 1) := by decide +kernel
theorem dX4_cartLine_0 : decode cX4_cartLine 0 = .ok (.aload_n 0, 1) := by decide +kernel
theorem dX4_cartLine_1 : decode cX4_cartLine 1 = .ok (.aload_n 0, 1) := by decide +kernel
theorem dX4_cartLine_2 : decode cX4_cartLine 2 = .ok (.getfield 17, 3) := by decide +kernel
theorem dX4_cartLine_5 : decode cX4_cartLine 5 = .ok (.getfield 182, 3) := by decide +kernel
theorem dX4_cartLine_8 : decode cX4_cartLine 8 = .ok (.bipush 8, 2) := by decide +kernel
theorem dX4_cartLine_10 : decode cX4_cartLine 10 = .ok (.invokevirtual 157, 3) := by decide +kernel
theorem dX4_cartLine_13 : decode cX4_cartLine 13 = .ok (.ifCond .ne 5, 3) := by decide +kernel
theorem dX4_cartLine_16 : decode cX4_cartLine 16 = .ok (.iconst 0, 1) := by decide +kernel
theorem dX4_cartLine_17 : decode cX4_cartLine 17 = .ok (.ireturn, 1) := by decide +kernel
theorem dX4_cartLine_18 : decode cX4_cartLine 18 = .ok (.aload_n 0, 1) := by decide +kernel
theorem dX4_cartLine_19 : decode cX4_cartLine 19 = .ok (.getfield 17, 3) := by decide +kernel
theorem dX4_cartLine_22 : decode cX4_cartLine 22 = .ok (.getfield 185, 3) := by decide +kernel
theorem dX4_cartLine_25 : decode cX4_cartLine 25 = .ok (.aload_n 0, 1) := by decide +kernel
theorem dX4_cartLine_26 : decode cX4_cartLine 26 = .ok (.getfield 17, 3) := by decide +kernel
theorem dX4_cartLine_29 : decode cX4_cartLine 29 = .ok (.getfield 182, 3) := by decide +kernel
theorem dX4_cartLine_32 : decode cX4_cartLine 32 = .ok (.aaload, 1) := by decide +kernel
theorem dX4_cartLine_33 : decode cX4_cartLine 33 = .ok (.astore_n 1, 1) := by decide +kernel
theorem dX4_cartLine_34 : decode cX4_cartLine 34 = .ok (.aload_n 0, 1) := by decide +kernel
theorem dX4_cartLine_35 : decode cX4_cartLine 35 = .ok (.getfield 17, 3) := by decide +kernel
theorem dX4_cartLine_38 : decode cX4_cartLine 38 = .ok (.dup, 1) := by decide +kernel
theorem dX4_cartLine_39 : decode cX4_cartLine 39 = .ok (.getfield 182, 3) := by decide +kernel
theorem dX4_cartLine_42 : decode cX4_cartLine 42 = .ok (.iconst 1, 1) := by decide +kernel
theorem dX4_cartLine_43 : decode cX4_cartLine 43 = .ok (.iadd, 1) := by decide +kernel
theorem dX4_cartLine_44 : decode cX4_cartLine 44 = .ok (.putfield 182, 3) := by decide +kernel
theorem dX4_cartLine_47 : decode cX4_cartLine 47 = .ok (.aload_n 0, 1) := by decide +kernel
theorem dX4_cartLine_48 : decode cX4_cartLine 48 = .ok (.invokevirtual 50, 3) := by decide +kernel
theorem dX4_cartLine_51 : decode cX4_cartLine 51 = .ok (.aload_n 0, 1) := by decide +kernel
theorem dX4_cartLine_52 : decode cX4_cartLine 52 = .ok (.iconst (-1), 1) := by decide +kernel
theorem dX4_cartLine_53 : decode cX4_cartLine 53 = .ok (.invokevirtual 163, 3) := by decide +kernel
theorem dX4_cartLine_56 : decode cX4_cartLine 56 = .ok (.ifCond .eq 42, 3) := by decide +kernel
theorem dX4_cartLine_59 : decode cX4_cartLine 59 = .ok (.aload_n 0, 1) := by decide +kernel
theorem dX4_cartLine_60 : decode cX4_cartLine 60 = .ok (.ldc 167, 2) := by decide +kernel
theorem dX4_cartLine_62 : decode cX4_cartLine 62 = .ok (.iconst 0, 1) := by decide +kernel
theorem dX4_cartLine_63 : decode cX4_cartLine 63 = .ok (.aload_n 0, 1) := by decide +kernel
theorem dX4_cartLine_64 : decode cX4_cartLine 64 = .ok (.getfield 17, 3) := by decide +kernel
theorem dX4_cartLine_67 : decode cX4_cartLine 67 = .ok (.getfield 60, 3) := by decide +kernel
theorem dX4_cartLine_70 : decode cX4_cartLine 70 = .ok (.iconst 1, 1) := by decide +kernel
theorem dX4_cartLine_71 : decode cX4_cartLine 71 = .ok (.isub, 1) := by decide +kernel
theorem dX4_cartLine_72 : decode cX4_cartLine 72 = .ok (.aload_n 1, 1) := by decide +kernel
theorem dX4_cartLine_73 : decode cX4_cartLine 73 = .ok (.iconst 0, 1) := by decide +kernel
theorem dX4_cartLine_74 : decode cX4_cartLine 74 = .ok (.invokevirtual 169, 3) := by decide +kernel
theorem dX4_cartLine_77 : decode cX4_cartLine 77 = .ok (.ifCond .eq 21, 3) := by decide +kernel
theorem dX4_cartLine_80 : decode cX4_cartLine 80 = .ok (.aload_n 0, 1) := by decide +kernel
theorem dX4_cartLine_81 : decode cX4_cartLine 81 = .ok (.ldc 187, 2) := by decide +kernel
theorem dX4_cartLine_83 : decode cX4_cartLine 83 = .ok (.iconst 1, 1) := by decide +kernel
theorem dX4_cartLine_84 : decode cX4_cartLine 84 = .ok (.bipush 99, 2) := by decide +kernel
theorem dX4_cartLine_86 : decode cX4_cartLine 86 = .ok (.aload_n 1, 1) := by decide +kernel
theorem dX4_cartLine_87 : decode cX4_cartLine 87 = .ok (.iconst 1, 1) := by decide +kernel
theorem dX4_cartLine_88 : decode cX4_cartLine 88 = .ok (.invokevirtual 169, 3) := by decide +kernel
theorem dX4_cartLine_91 : decode cX4_cartLine 91 = .ok (.ifCond .eq 7, 3) := by decide +kernel
theorem dX4_cartLine_94 : decode cX4_cartLine 94 = .ok (.iconst 1, 1) := by decide +kernel
theorem dX4_cartLine_95 : decode cX4_cartLine 95 = .ok (.goto 4, 3) := by decide +kernel
theorem dX4_cartLine_98 : decode cX4_cartLine 98 = .ok (.iconst 0, 1) := by decide +kernel
theorem dX4_cartLine_99 : decode cX4_cartLine 99 = .ok (.ireturn, 1) := by decide +kernel
theorem dX4_flaw_0 : decode cX4_flaw 0 = .ok (.aload_n 0, 1) := by decide +kernel
theorem dX4_flaw_1 : decode cX4_flaw 1 = .ok (.iload_n 1, 1) := by decide +kernel
theorem dX4_flaw_2 : decode cX4_flaw 2 = .ok (.putfield 44, 3) := by decide +kernel
theorem dX4_flaw_5 : decode cX4_flaw 5 = .ok (.aload_n 0, 1) := by decide +kernel
theorem dX4_flaw_6 : decode cX4_flaw 6 = .ok (.iload_n 2, 1) := by decide +kernel
theorem dX4_flaw_7 : decode cX4_flaw 7 = .ok (.putfield 47, 3) := by decide +kernel
theorem dX4_flaw_10 : decode cX4_flaw 10 = .ok (.iconst 0, 1) := by decide +kernel
theorem dX4_flaw_11 : decode cX4_flaw 11 = .ok (.ireturn, 1) := by decide +kernel
theorem dX4_gateLine_0 : decode cX4_gateLine 0 = .ok (.aload_n 0, 1) := by decide +kernel
theorem dX4_gateLine_1 : decode cX4_gateLine 1 = .ok (.aload_n 0, 1) := by decide +kernel
theorem dX4_gateLine_2 : decode cX4_gateLine 2 = .ok (.getfield 17, 3) := by decide +kernel
theorem dX4_gateLine_5 : decode cX4_gateLine 5 = .ok (.getfield 154, 3) := by decide +kernel
theorem dX4_gateLine_8 : decode cX4_gateLine 8 = .ok (.bipush 11, 2) := by decide +kernel
theorem dX4_gateLine_10 : decode cX4_gateLine 10 = .ok (.invokevirtual 157, 3) := by decide +kernel
theorem dX4_gateLine_13 : decode cX4_gateLine 13 = .ok (.ifCond .ne 5, 3) := by decide +kernel
theorem dX4_gateLine_16 : decode cX4_gateLine 16 = .ok (.iconst 0, 1) := by decide +kernel
theorem dX4_gateLine_17 : decode cX4_gateLine 17 = .ok (.ireturn, 1) := by decide +kernel
theorem dX4_gateLine_18 : decode cX4_gateLine 18 = .ok (.aload_n 0, 1) := by decide +kernel
theorem dX4_gateLine_19 : decode cX4_gateLine 19 = .ok (.getfield 17, 3) := by decide +kernel
theorem dX4_gateLine_22 : decode cX4_gateLine 22 = .ok (.getfield 160, 3) := by decide +kernel
theorem dX4_gateLine_25 : decode cX4_gateLine 25 = .ok (.aload_n 0, 1) := by decide +kernel
theorem dX4_gateLine_26 : decode cX4_gateLine 26 = .ok (.getfield 17, 3) := by decide +kernel
theorem dX4_gateLine_29 : decode cX4_gateLine 29 = .ok (.getfield 154, 3) := by decide +kernel
theorem dX4_gateLine_32 : decode cX4_gateLine 32 = .ok (.aaload, 1) := by decide +kernel
theorem dX4_gateLine_33 : decode cX4_gateLine 33 = .ok (.astore_n 1, 1) := by decide +kernel
theorem dX4_gateLine_34 : decode cX4_gateLine 34 = .ok (.aload_n 0, 1) := by decide +kernel
theorem dX4_gateLine_35 : decode cX4_gateLine 35 = .ok (.getfield 17, 3) := by decide +kernel
theorem dX4_gateLine_38 : decode cX4_gateLine 38 = .ok (.dup, 1) := by decide +kernel
theorem dX4_gateLine_39 : decode cX4_gateLine 39 = .ok (.getfield 154, 3) := by decide +kernel
theorem dX4_gateLine_42 : decode cX4_gateLine 42 = .ok (.iconst 1, 1) := by decide +kernel
theorem dX4_gateLine_43 : decode cX4_gateLine 43 = .ok (.iadd, 1) := by decide +kernel
theorem dX4_gateLine_44 : decode cX4_gateLine 44 = .ok (.putfield 154, 3) := by decide +kernel
theorem dX4_gateLine_47 : decode cX4_gateLine 47 = .ok (.aload_n 1, 1) := by decide +kernel
theorem dX4_gateLine_48 : decode cX4_gateLine 48 = .ok (.bipush 6, 2) := by decide +kernel
theorem dX4_gateLine_50 : decode cX4_gateLine 50 = .ok (.iconst 0, 1) := by decide +kernel
theorem dX4_gateLine_51 : decode cX4_gateLine 51 = .ok (.iastore, 1) := by decide +kernel
theorem dX4_gateLine_52 : decode cX4_gateLine 52 = .ok (.aload_n 0, 1) := by decide +kernel
theorem dX4_gateLine_53 : decode cX4_gateLine 53 = .ok (.invokevirtual 50, 3) := by decide +kernel
theorem dX4_gateLine_56 : decode cX4_gateLine 56 = .ok (.aload_n 0, 1) := by decide +kernel
theorem dX4_gateLine_57 : decode cX4_gateLine 57 = .ok (.iconst (-1), 1) := by decide +kernel
theorem dX4_gateLine_58 : decode cX4_gateLine 58 = .ok (.invokevirtual 163, 3) := by decide +kernel
theorem dX4_gateLine_61 : decode cX4_gateLine 61 = .ok (.ifCond .eq 98, 3) := by decide +kernel
theorem dX4_gateLine_64 : decode cX4_gateLine 64 = .ok (.aload_n 0, 1) := by decide +kernel
theorem dX4_gateLine_65 : decode cX4_gateLine 65 = .ok (.ldc 167, 2) := by decide +kernel
theorem dX4_gateLine_67 : decode cX4_gateLine 67 = .ok (.iconst 0, 1) := by decide +kernel
theorem dX4_gateLine_68 : decode cX4_gateLine 68 = .ok (.aload_n 0, 1) := by decide +kernel
theorem dX4_gateLine_69 : decode cX4_gateLine 69 = .ok (.getfield 17, 3) := by decide +kernel
theorem dX4_gateLine_72 : decode cX4_gateLine 72 = .ok (.getfield 60, 3) := by decide +kernel
theorem dX4_gateLine_75 : decode cX4_gateLine 75 = .ok (.iconst 2, 1) := by decide +kernel
theorem dX4_gateLine_76 : decode cX4_gateLine 76 = .ok (.isub, 1) := by decide +kernel
theorem dX4_gateLine_77 : decode cX4_gateLine 77 = .ok (.aload_n 1, 1) := by decide +kernel
theorem dX4_gateLine_78 : decode cX4_gateLine 78 = .ok (.iconst 0, 1) := by decide +kernel
theorem dX4_gateLine_79 : decode cX4_gateLine 79 = .ok (.invokevirtual 169, 3) := by decide +kernel
theorem dX4_gateLine_82 : decode cX4_gateLine 82 = .ok (.ifCond .eq 77, 3) := by decide +kernel
theorem dX4_gateLine_85 : decode cX4_gateLine 85 = .ok (.aload_n 0, 1) := by decide +kernel
theorem dX4_gateLine_86 : decode cX4_gateLine 86 = .ok (.ldc 173, 2) := by decide +kernel
theorem dX4_gateLine_88 : decode cX4_gateLine 88 = .ok (.iconst 0, 1) := by decide +kernel
theorem dX4_gateLine_89 : decode cX4_gateLine 89 = .ok (.bipush 11, 2) := by decide +kernel
theorem dX4_gateLine_91 : decode cX4_gateLine 91 = .ok (.aload_n 1, 1) := by decide +kernel
theorem dX4_gateLine_92 : decode cX4_gateLine 92 = .ok (.iconst 1, 1) := by decide +kernel
theorem dX4_gateLine_93 : decode cX4_gateLine 93 = .ok (.invokevirtual 169, 3) := by decide +kernel
theorem dX4_gateLine_96 : decode cX4_gateLine 96 = .ok (.ifCond .eq 63, 3) := by decide +kernel
theorem dX4_gateLine_99 : decode cX4_gateLine 99 = .ok (.aload_n 0, 1) := by decide +kernel
theorem dX4_gateLine_100 : decode cX4_gateLine 100 = .ok (.ldc 174, 2) := by decide +kernel
theorem dX4_gateLine_102 : decode cX4_gateLine 102 = .ok (.iconst 1, 1) := by decide +kernel
theorem dX4_gateLine_103 : decode cX4_gateLine 103 = .ok (.bipush 99, 2) := by decide +kernel
theorem dX4_gateLine_105 : decode cX4_gateLine 105 = .ok (.aload_n 1, 1) := by decide +kernel
theorem dX4_gateLine_106 : decode cX4_gateLine 106 = .ok (.iconst 2, 1) := by decide +kernel
theorem dX4_gateLine_107 : decode cX4_gateLine 107 = .ok (.invokevirtual 169, 3) := by decide +kernel
theorem dX4_gateLine_110 : decode cX4_gateLine 110 = .ok (.ifCond .eq 49, 3) := by decide +kernel
theorem dX4_gateLine_113 : decode cX4_gateLine 113 = .ok (.aload_n 0, 1) := by decide +kernel
theorem dX4_gateLine_114 : decode cX4_gateLine 114 = .ok (.ldc 176, 2) := by decide +kernel
theorem dX4_gateLine_116 : decode cX4_gateLine 116 = .ok (.iconst 1, 1) := by decide +kernel
theorem dX4_gateLine_117 : decode cX4_gateLine 117 = .ok (.bipush 99, 2) := by decide +kernel
theorem dX4_gateLine_119 : decode cX4_gateLine 119 = .ok (.aload_n 1, 1) := by decide +kernel
theorem dX4_gateLine_120 : decode cX4_gateLine 120 = .ok (.iconst 3, 1) := by decide +kernel
theorem dX4_gateLine_121 : decode cX4_gateLine 121 = .ok (.invokevirtual 169, 3) := by decide +kernel
theorem dX4_gateLine_124 : decode cX4_gateLine 124 = .ok (.ifCond .eq 35, 3) := by decide +kernel
theorem dX4_gateLine_127 : decode cX4_gateLine 127 = .ok (.aload_n 0, 1) := by decide +kernel
theorem dX4_gateLine_128 : decode cX4_gateLine 128 = .ok (.ldc 178, 2) := by decide +kernel
theorem dX4_gateLine_130 : decode cX4_gateLine 130 = .ok (.iconst 1, 1) := by decide +kernel
theorem dX4_gateLine_131 : decode cX4_gateLine 131 = .ok (.bipush 9, 2) := by decide +kernel
theorem dX4_gateLine_133 : decode cX4_gateLine 133 = .ok (.aload_n 1, 1) := by decide +kernel
theorem dX4_gateLine_134 : decode cX4_gateLine 134 = .ok (.iconst 4, 1) := by decide +kernel
theorem dX4_gateLine_135 : decode cX4_gateLine 135 = .ok (.invokevirtual 169, 3) := by decide +kernel
theorem dX4_gateLine_138 : decode cX4_gateLine 138 = .ok (.ifCond .eq 21, 3) := by decide +kernel
theorem dX4_gateLine_141 : decode cX4_gateLine 141 = .ok (.aload_n 0, 1) := by decide +kernel
theorem dX4_gateLine_142 : decode cX4_gateLine 142 = .ok (.ldc 180, 2) := by decide +kernel
theorem dX4_gateLine_144 : decode cX4_gateLine 144 = .ok (.iconst 0, 1) := by decide +kernel
theorem dX4_gateLine_145 : decode cX4_gateLine 145 = .ok (.bipush 99, 2) := by decide +kernel
theorem dX4_gateLine_147 : decode cX4_gateLine 147 = .ok (.aload_n 1, 1) := by decide +kernel
theorem dX4_gateLine_148 : decode cX4_gateLine 148 = .ok (.iconst 5, 1) := by decide +kernel
theorem dX4_gateLine_149 : decode cX4_gateLine 149 = .ok (.invokevirtual 169, 3) := by decide +kernel
theorem dX4_gateLine_152 : decode cX4_gateLine 152 = .ok (.ifCond .eq 7, 3) := by decide +kernel
theorem dX4_gateLine_155 : decode cX4_gateLine 155 = .ok (.iconst 1, 1) := by decide +kernel
theorem dX4_gateLine_156 : decode cX4_gateLine 156 = .ok (.goto 4, 3) := by decide +kernel
theorem dX4_gateLine_159 : decode cX4_gateLine 159 = .ok (.iconst 0, 1) := by decide +kernel
theorem dX4_gateLine_160 : decode cX4_gateLine 160 = .ok (.ireturn, 1) := by decide +kernel
theorem dX4_goodKind_0 : decode cX4_goodKind 0 = .ok (.iconst 0, 1) := by decide +kernel
theorem dX4_goodKind_1 : decode cX4_goodKind 1 = .ok (.istore_n 2, 1) := by decide +kernel
theorem dX4_goodKind_2 : decode cX4_goodKind 2 = .ok (.aload_n 0, 1) := by decide +kernel
theorem dX4_goodKind_3 : decode cX4_goodKind 3 = .ok (.ldc 105, 2) := by decide +kernel
theorem dX4_goodKind_5 : decode cX4_goodKind 5 = .ok (.invokevirtual 91, 3) := by decide +kernel
theorem dX4_goodKind_8 : decode cX4_goodKind 8 = .ok (.ifCond .eq 24, 3) := by decide +kernel
theorem dX4_goodKind_11 : decode cX4_goodKind 11 = .ok (.aload_n 0, 1) := by decide +kernel
theorem dX4_goodKind_12 : decode cX4_goodKind 12 = .ok (.invokevirtual 50, 3) := by decide +kernel
theorem dX4_goodKind_15 : decode cX4_goodKind 15 = .ok (.aload_n 0, 1) := by decide +kernel
theorem dX4_goodKind_16 : decode cX4_goodKind 16 = .ok (.iconst 2, 1) := by decide +kernel
theorem dX4_goodKind_17 : decode cX4_goodKind 17 = .ok (.bipush 9, 2) := by decide +kernel
theorem dX4_goodKind_19 : decode cX4_goodKind 19 = .ok (.invokevirtual 117, 3) := by decide +kernel
theorem dX4_goodKind_22 : decode cX4_goodKind 22 = .ok (.ifCond .ne 5, 3) := by decide +kernel
theorem dX4_goodKind_25 : decode cX4_goodKind 25 = .ok (.iconst 0, 1) := by decide +kernel
theorem dX4_goodKind_26 : decode cX4_goodKind 26 = .ok (.ireturn, 1) := by decide +kernel
theorem dX4_goodKind_27 : decode cX4_goodKind 27 = .ok (.aload_n 0, 1) := by decide +kernel
theorem dX4_goodKind_28 : decode cX4_goodKind 28 = .ok (.getfield 111, 3) := by decide +kernel
theorem dX4_goodKind_31 : decode cX4_goodKind 31 = .ok (.istore_n 2, 1) := by decide +kernel
theorem dX4_goodKind_32 : decode cX4_goodKind 32 = .ok (.aload_n 0, 1) := by decide +kernel
theorem dX4_goodKind_33 : decode cX4_goodKind 33 = .ok (.ldc 107, 2) := by decide +kernel
theorem dX4_goodKind_35 : decode cX4_goodKind 35 = .ok (.invokevirtual 91, 3) := by decide +kernel
theorem dX4_goodKind_38 : decode cX4_goodKind 38 = .ok (.istore_n 3, 1) := by decide +kernel
theorem dX4_goodKind_39 : decode cX4_goodKind 39 = .ok (.iload_n 3, 1) := by decide +kernel
theorem dX4_goodKind_40 : decode cX4_goodKind 40 = .ok (.ifCond .eq 7, 3) := by decide +kernel
theorem dX4_goodKind_43 : decode cX4_goodKind 43 = .ok (.aload_n 0, 1) := by decide +kernel
theorem dX4_goodKind_44 : decode cX4_goodKind 44 = .ok (.invokevirtual 50, 3) := by decide +kernel
theorem dX4_goodKind_47 : decode cX4_goodKind 47 = .ok (.aload_n 0, 1) := by decide +kernel
theorem dX4_goodKind_48 : decode cX4_goodKind 48 = .ok (.ldc 109, 2) := by decide +kernel
theorem dX4_goodKind_50 : decode cX4_goodKind 50 = .ok (.invokevirtual 91, 3) := by decide +kernel
theorem dX4_goodKind_53 : decode cX4_goodKind 53 = .ok (.istore 4, 2) := by decide +kernel
theorem dX4_goodKind_55 : decode cX4_goodKind 55 = .ok (.iload 4, 2) := by decide +kernel
theorem dX4_goodKind_57 : decode cX4_goodKind 57 = .ok (.ifCond .eq 7, 3) := by decide +kernel
theorem dX4_goodKind_60 : decode cX4_goodKind 60 = .ok (.aload_n 0, 1) := by decide +kernel
theorem dX4_goodKind_61 : decode cX4_goodKind 61 = .ok (.invokevirtual 50, 3) := by decide +kernel
theorem dX4_goodKind_64 : decode cX4_goodKind 64 = .ok (.aload_n 0, 1) := by decide +kernel
theorem dX4_goodKind_65 : decode cX4_goodKind 65 = .ok (.aload_n 0, 1) := by decide +kernel
theorem dX4_goodKind_66 : decode cX4_goodKind 66 = .ok (.getfield 17, 3) := by decide +kernel
theorem dX4_goodKind_69 : decode cX4_goodKind 69 = .ok (.getfield 205, 3) := by decide +kernel
theorem dX4_goodKind_72 : decode cX4_goodKind 72 = .ok (.iload_n 1, 1) := by decide +kernel
theorem dX4_goodKind_73 : decode cX4_goodKind 73 = .ok (.aaload, 1) := by decide +kernel
theorem dX4_goodKind_74 : decode cX4_goodKind 74 = .ok (.iconst 1, 1) := by decide +kernel
theorem dX4_goodKind_75 : decode cX4_goodKind 75 = .ok (.iload_n 3, 1) := by decide +kernel
theorem dX4_goodKind_76 : decode cX4_goodKind 76 = .ok (.iload 4, 2) := by decide +kernel
theorem dX4_goodKind_78 : decode cX4_goodKind 78 = .ok (.ifCond .ne 7, 3) := by decide +kernel
theorem dX4_goodKind_81 : decode cX4_goodKind 81 = .ok (.iconst 1, 1) := by decide +kernel
theorem dX4_goodKind_82 : decode cX4_goodKind 82 = .ok (.goto 4, 3) := by decide +kernel
theorem dX4_goodKind_85 : decode cX4_goodKind 85 = .ok (.iconst 0, 1) := by decide +kernel
theorem dX4_goodKind_86 : decode cX4_goodKind 86 = .ok (.invokevirtual 209, 3) := by decide +kernel
theorem dX4_goodKind_89 : decode cX4_goodKind 89 = .ok (.aload_n 0, 1) := by decide +kernel
theorem dX4_goodKind_90 : decode cX4_goodKind 90 = .ok (.aload_n 0, 1) := by decide +kernel
theorem dX4_goodKind_91 : decode cX4_goodKind 91 = .ok (.getfield 17, 3) := by decide +kernel
theorem dX4_goodKind_94 : decode cX4_goodKind 94 = .ok (.getfield 213, 3) := by decide +kernel
theorem dX4_goodKind_97 : decode cX4_goodKind 97 = .ok (.iload_n 1, 1) := by decide +kernel
theorem dX4_goodKind_98 : decode cX4_goodKind 98 = .ok (.aaload, 1) := by decide +kernel
theorem dX4_goodKind_99 : decode cX4_goodKind 99 = .ok (.iload 4, 2) := by decide +kernel
theorem dX4_goodKind_101 : decode cX4_goodKind 101 = .ok (.ifCond .eq 7, 3) := by decide +kernel
theorem dX4_goodKind_104 : decode cX4_goodKind 104 = .ok (.iconst 0, 1) := by decide +kernel
theorem dX4_goodKind_105 : decode cX4_goodKind 105 = .ok (.goto 4, 3) := by decide +kernel
theorem dX4_goodKind_108 : decode cX4_goodKind 108 = .ok (.iload_n 2, 1) := by decide +kernel
theorem dX4_goodKind_109 : decode cX4_goodKind 109 = .ok (.iload_n 3, 1) := by decide +kernel
theorem dX4_goodKind_110 : decode cX4_goodKind 110 = .ok (.iload 4, 2) := by decide +kernel
theorem dX4_goodKind_112 : decode cX4_goodKind 112 = .ok (.ifCond .ne 7, 3) := by decide +kernel
theorem dX4_goodKind_115 : decode cX4_goodKind 115 = .ok (.iconst 1, 1) := by decide +kernel
theorem dX4_goodKind_116 : decode cX4_goodKind 116 = .ok (.goto 4, 3) := by decide +kernel
theorem dX4_goodKind_119 : decode cX4_goodKind 119 = .ok (.iconst 0, 1) := by decide +kernel
theorem dX4_goodKind_120 : decode cX4_goodKind 120 = .ok (.invokevirtual 209, 3) := by decide +kernel
theorem dX4_goodKind_123 : decode cX4_goodKind 123 = .ok (.iconst 1, 1) := by decide +kernel
theorem dX4_goodKind_124 : decode cX4_goodKind 124 = .ok (.ireturn, 1) := by decide +kernel
theorem dX4_goodLine_0 : decode cX4_goodLine 0 = .ok (.aload_n 0, 1) := by decide +kernel
theorem dX4_goodLine_1 : decode cX4_goodLine 1 = .ok (.getfield 17, 3) := by decide +kernel
theorem dX4_goodLine_4 : decode cX4_goodLine 4 = .ok (.getfield 195, 3) := by decide +kernel
theorem dX4_goodLine_7 : decode cX4_goodLine 7 = .ok (.istore_n 1, 1) := by decide +kernel
theorem dX4_goodLine_8 : decode cX4_goodLine 8 = .ok (.iload_n 1, 1) := by decide +kernel
theorem dX4_goodLine_9 : decode cX4_goodLine 9 = .ok (.bipush 8, 2) := by decide +kernel
theorem dX4_goodLine_11 : decode cX4_goodLine 11 = .ok (.if_icmp .lt 13, 3) := by decide +kernel
theorem dX4_goodLine_14 : decode cX4_goodLine 14 = .ok (.aload_n 0, 1) := by decide +kernel
theorem dX4_goodLine_15 : decode cX4_goodLine 15 = .ok (.iconst 5, 1) := by decide +kernel
theorem dX4_goodLine_16 : decode cX4_goodLine 16 = .ok (.aload_n 0, 1) := by decide +kernel
theorem dX4_goodLine_17 : decode cX4_goodLine 17 = .ok (.getfield 63, 3) := by decide +kernel
theorem dX4_goodLine_20 : decode cX4_goodLine 20 = .ok (.invokevirtual 66, 3) := by decide +kernel
theorem dX4_goodLine_23 : decode cX4_goodLine 23 = .ok (.ireturn, 1) := by decide +kernel
theorem dX4_goodLine_24 : decode cX4_goodLine 24 = .ok (.aload_n 0, 1) := by decide +kernel
theorem dX4_goodLine_25 : decode cX4_goodLine 25 = .ok (.getfield 17, 3) := by decide +kernel
theorem dX4_goodLine_28 : decode cX4_goodLine 28 = .ok (.dup, 1) := by decide +kernel
theorem dX4_goodLine_29 : decode cX4_goodLine 29 = .ok (.getfield 195, 3) := by decide +kernel
theorem dX4_goodLine_32 : decode cX4_goodLine 32 = .ok (.iconst 1, 1) := by decide +kernel
theorem dX4_goodLine_33 : decode cX4_goodLine 33 = .ok (.iadd, 1) := by decide +kernel
theorem dX4_goodLine_34 : decode cX4_goodLine 34 = .ok (.putfield 195, 3) := by decide +kernel
theorem dX4_goodLine_37 : decode cX4_goodLine 37 = .ok (.aload_n 0, 1) := by decide +kernel
theorem dX4_goodLine_38 : decode cX4_goodLine 38 = .ok (.invokevirtual 50, 3) := by decide +kernel
theorem dX4_goodLine_41 : decode cX4_goodLine 41 = .ok (.aload_n 0, 1) := by decide +kernel
theorem dX4_goodLine_42 : decode cX4_goodLine 42 = .ok (.iload_n 1, 1) := by decide +kernel
theorem dX4_goodLine_43 : decode cX4_goodLine 43 = .ok (.invokevirtual 163, 3) := by decide +kernel
theorem dX4_goodLine_46 : decode cX4_goodLine 46 = .ok (.ifCond .eq 75, 3) := by decide +kernel
theorem dX4_goodLine_49 : decode cX4_goodLine 49 = .ok (.aload_n 0, 1) := by decide +kernel
theorem dX4_goodLine_50 : decode cX4_goodLine 50 = .ok (.ldc 198, 2) := by decide +kernel
theorem dX4_goodLine_52 : decode cX4_goodLine 52 = .ok (.iconst 1, 1) := by decide +kernel
theorem dX4_goodLine_53 : decode cX4_goodLine 53 = .ok (.bipush 99, 2) := by decide +kernel
theorem dX4_goodLine_55 : decode cX4_goodLine 55 = .ok (.aload_n 0, 1) := by decide +kernel
theorem dX4_goodLine_56 : decode cX4_goodLine 56 = .ok (.getfield 28, 3) := by decide +kernel
theorem dX4_goodLine_59 : decode cX4_goodLine 59 = .ok (.iconst 0, 1) := by decide +kernel
theorem dX4_goodLine_60 : decode cX4_goodLine 60 = .ok (.invokevirtual 169, 3) := by decide +kernel
theorem dX4_goodLine_63 : decode cX4_goodLine 63 = .ok (.ifCond .eq 58, 3) := by decide +kernel
theorem dX4_goodLine_66 : decode cX4_goodLine 66 = .ok (.aload_n 0, 1) := by decide +kernel
theorem dX4_goodLine_67 : decode cX4_goodLine 67 = .ok (.ldc 174, 2) := by decide +kernel
theorem dX4_goodLine_69 : decode cX4_goodLine 69 = .ok (.iconst 1, 1) := by decide +kernel
theorem dX4_goodLine_70 : decode cX4_goodLine 70 = .ok (.bipush 99, 2) := by decide +kernel
theorem dX4_goodLine_72 : decode cX4_goodLine 72 = .ok (.aload_n 0, 1) := by decide +kernel
theorem dX4_goodLine_73 : decode cX4_goodLine 73 = .ok (.getfield 28, 3) := by decide +kernel
theorem dX4_goodLine_76 : decode cX4_goodLine 76 = .ok (.iconst 1, 1) := by decide +kernel
theorem dX4_goodLine_77 : decode cX4_goodLine 77 = .ok (.invokevirtual 169, 3) := by decide +kernel
theorem dX4_goodLine_80 : decode cX4_goodLine 80 = .ok (.ifCond .eq 41, 3) := by decide +kernel
theorem dX4_goodLine_83 : decode cX4_goodLine 83 = .ok (.aload_n 0, 1) := by decide +kernel
theorem dX4_goodLine_84 : decode cX4_goodLine 84 = .ok (.ldc 176, 2) := by decide +kernel
theorem dX4_goodLine_86 : decode cX4_goodLine 86 = .ok (.iconst 1, 1) := by decide +kernel
theorem dX4_goodLine_87 : decode cX4_goodLine 87 = .ok (.bipush 99, 2) := by decide +kernel
theorem dX4_goodLine_89 : decode cX4_goodLine 89 = .ok (.aload_n 0, 1) := by decide +kernel
theorem dX4_goodLine_90 : decode cX4_goodLine 90 = .ok (.getfield 28, 3) := by decide +kernel
theorem dX4_goodLine_93 : decode cX4_goodLine 93 = .ok (.iconst 2, 1) := by decide +kernel
theorem dX4_goodLine_94 : decode cX4_goodLine 94 = .ok (.invokevirtual 169, 3) := by decide +kernel
theorem dX4_goodLine_97 : decode cX4_goodLine 97 = .ok (.ifCond .eq 24, 3) := by decide +kernel
theorem dX4_goodLine_100 : decode cX4_goodLine 100 = .ok (.aload_n 0, 1) := by decide +kernel
theorem dX4_goodLine_101 : decode cX4_goodLine 101 = .ok (.ldc 200, 2) := by decide +kernel
theorem dX4_goodLine_103 : decode cX4_goodLine 103 = .ok (.iconst 1, 1) := by decide +kernel
theorem dX4_goodLine_104 : decode cX4_goodLine 104 = .ok (.bipush 99, 2) := by decide +kernel
theorem dX4_goodLine_106 : decode cX4_goodLine 106 = .ok (.aload_n 0, 1) := by decide +kernel
theorem dX4_goodLine_107 : decode cX4_goodLine 107 = .ok (.getfield 28, 3) := by decide +kernel
theorem dX4_goodLine_110 : decode cX4_goodLine 110 = .ok (.iconst 3, 1) := by decide +kernel
theorem dX4_goodLine_111 : decode cX4_goodLine 111 = .ok (.invokevirtual 169, 3) := by decide +kernel
theorem dX4_goodLine_114 : decode cX4_goodLine 114 = .ok (.ifCond .eq 7, 3) := by decide +kernel
theorem dX4_goodLine_117 : decode cX4_goodLine 117 = .ok (.iconst 1, 1) := by decide +kernel
theorem dX4_goodLine_118 : decode cX4_goodLine 118 = .ok (.goto 4, 3) := by decide +kernel
theorem dX4_goodLine_121 : decode cX4_goodLine 121 = .ok (.iconst 0, 1) := by decide +kernel
theorem dX4_goodLine_122 : decode cX4_goodLine 122 = .ok (.istore_n 2, 1) := by decide +kernel
theorem dX4_goodLine_123 : decode cX4_goodLine 123 = .ok (.iload_n 2, 1) := by decide +kernel
theorem dX4_goodLine_124 : decode cX4_goodLine 124 = .ok (.ifCond .eq 15, 3) := by decide +kernel
theorem dX4_goodLine_127 : decode cX4_goodLine 127 = .ok (.aload_n 0, 1) := by decide +kernel
theorem dX4_goodLine_128 : decode cX4_goodLine 128 = .ok (.iload_n 1, 1) := by decide +kernel
theorem dX4_goodLine_129 : decode cX4_goodLine 129 = .ok (.invokevirtual 202, 3) := by decide +kernel
theorem dX4_goodLine_132 : decode cX4_goodLine 132 = .ok (.ifCond .eq 7, 3) := by decide +kernel
theorem dX4_goodLine_135 : decode cX4_goodLine 135 = .ok (.iconst 1, 1) := by decide +kernel
theorem dX4_goodLine_136 : decode cX4_goodLine 136 = .ok (.goto 4, 3) := by decide +kernel
theorem dX4_goodLine_139 : decode cX4_goodLine 139 = .ok (.iconst 0, 1) := by decide +kernel
theorem dX4_goodLine_140 : decode cX4_goodLine 140 = .ok (.ireturn, 1) := by decide +kernel
theorem dX4_init_0 : decode cX4_init 0 = .ok (.aload_n 0, 1) := by decide +kernel
theorem dX4_init_1 : decode cX4_init 1 = .ok (.invokespecial 5, 3) := by decide +kernel
theorem dX4_init_4 : decode cX4_init 4 = .ok (.aload_n 0, 1) := by decide +kernel
theorem dX4_init_5 : decode cX4_init 5 = .ok (.aload_n 1, 1) := by decide +kernel
theorem dX4_init_6 : decode cX4_init 6 = .ok (.putfield 11, 3) := by decide +kernel
theorem dX4_init_9 : decode cX4_init 9 = .ok (.aload_n 0, 1) := by decide +kernel
theorem dX4_init_10 : decode cX4_init 10 = .ok (.aload_n 2, 1) := by decide +kernel
theorem dX4_init_11 : decode cX4_init 11 = .ok (.putfield 17, 3) := by decide +kernel
theorem dX4_init_14 : decode cX4_init 14 = .ok (.aload_n 0, 1) := by decide +kernel
theorem dX4_init_15 : decode cX4_init 15 = .ok (.bipush 35, 2) := by decide +kernel
theorem dX4_init_17 : decode cX4_init 17 = .ok (.newarray .long, 2) := by decide +kernel
theorem dX4_init_19 : decode cX4_init 19 = .ok (.putfield 21, 3) := by decide +kernel
theorem dX4_init_22 : decode cX4_init 22 = .ok (.aload_n 0, 1) := by decide +kernel
theorem dX4_init_23 : decode cX4_init 23 = .ok (.bipush 35, 2) := by decide +kernel
theorem dX4_init_25 : decode cX4_init 25 = .ok (.newarray .int, 2) := by decide +kernel
theorem dX4_init_27 : decode cX4_init 27 = .ok (.putfield 25, 3) := by decide +kernel
theorem dX4_init_30 : decode cX4_init 30 = .ok (.aload_n 0, 1) := by decide +kernel
theorem dX4_init_31 : decode cX4_init 31 = .ok (.iconst 4, 1) := by decide +kernel
theorem dX4_init_32 : decode cX4_init 32 = .ok (.newarray .int, 2) := by decide +kernel
theorem dX4_init_34 : decode cX4_init 34 = .ok (.putfield 28, 3) := by decide +kernel
theorem dX4_init_37 : decode cX4_init 37 = .ok (.return_, 1) := by decide +kernel
theorem dX4_isName_0 : decode cX4_isName 0 = .ok (.aload_n 0, 1) := by decide +kernel
theorem dX4_isName_1 : decode cX4_isName 1 = .ok (.ldc 90, 2) := by decide +kernel
theorem dX4_isName_3 : decode cX4_isName 3 = .ok (.invokevirtual 91, 3) := by decide +kernel
theorem dX4_isName_6 : decode cX4_isName 6 = .ok (.ifCond .ne 75, 3) := by decide +kernel
theorem dX4_isName_9 : decode cX4_isName 9 = .ok (.aload_n 0, 1) := by decide +kernel
theorem dX4_isName_10 : decode cX4_isName 10 = .ok (.ldc 95, 2) := by decide +kernel
theorem dX4_isName_12 : decode cX4_isName 12 = .ok (.invokevirtual 91, 3) := by decide +kernel
theorem dX4_isName_15 : decode cX4_isName 15 = .ok (.ifCond .ne 66, 3) := by decide +kernel
theorem dX4_isName_18 : decode cX4_isName 18 = .ok (.aload_n 0, 1) := by decide +kernel
theorem dX4_isName_19 : decode cX4_isName 19 = .ok (.ldc 97, 2) := by decide +kernel
theorem dX4_isName_21 : decode cX4_isName 21 = .ok (.invokevirtual 91, 3) := by decide +kernel
theorem dX4_isName_24 : decode cX4_isName 24 = .ok (.ifCond .ne 57, 3) := by decide +kernel
theorem dX4_isName_27 : decode cX4_isName 27 = .ok (.aload_n 0, 1) := by decide +kernel
theorem dX4_isName_28 : decode cX4_isName 28 = .ok (.ldc 99, 2) := by decide +kernel
theorem dX4_isName_30 : decode cX4_isName 30 = .ok (.invokevirtual 91, 3) := by decide +kernel
theorem dX4_isName_33 : decode cX4_isName 33 = .ok (.ifCond .ne 48, 3) := by decide +kernel
theorem dX4_isName_36 : decode cX4_isName 36 = .ok (.aload_n 0, 1) := by decide +kernel
theorem dX4_isName_37 : decode cX4_isName 37 = .ok (.ldc 101, 2) := by decide +kernel
theorem dX4_isName_39 : decode cX4_isName 39 = .ok (.invokevirtual 91, 3) := by decide +kernel
theorem dX4_isName_42 : decode cX4_isName 42 = .ok (.ifCond .ne 39, 3) := by decide +kernel
theorem dX4_isName_45 : decode cX4_isName 45 = .ok (.aload_n 0, 1) := by decide +kernel
theorem dX4_isName_46 : decode cX4_isName 46 = .ok (.ldc 103, 2) := by decide +kernel
theorem dX4_isName_48 : decode cX4_isName 48 = .ok (.invokevirtual 91, 3) := by decide +kernel
theorem dX4_isName_51 : decode cX4_isName 51 = .ok (.ifCond .ne 30, 3) := by decide +kernel
theorem dX4_isName_54 : decode cX4_isName 54 = .ok (.aload_n 0, 1) := by decide +kernel
theorem dX4_isName_55 : decode cX4_isName 55 = .ok (.ldc 105, 2) := by decide +kernel
theorem dX4_isName_57 : decode cX4_isName 57 = .ok (.invokevirtual 91, 3) := by decide +kernel
theorem dX4_isName_60 : decode cX4_isName 60 = .ok (.ifCond .ne 21, 3) := by decide +kernel
theorem dX4_isName_63 : decode cX4_isName 63 = .ok (.aload_n 0, 1) := by decide +kernel
theorem dX4_isName_64 : decode cX4_isName 64 = .ok (.ldc 107, 2) := by decide +kernel
theorem dX4_isName_66 : decode cX4_isName 66 = .ok (.invokevirtual 91, 3) := by decide +kernel
theorem dX4_isName_69 : decode cX4_isName 69 = .ok (.ifCond .ne 12, 3) := by decide +kernel
theorem dX4_isName_72 : decode cX4_isName 72 = .ok (.aload_n 0, 1) := by decide +kernel
theorem dX4_isName_73 : decode cX4_isName 73 = .ok (.ldc 109, 2) := by decide +kernel
theorem dX4_isName_75 : decode cX4_isName 75 = .ok (.invokevirtual 91, 3) := by decide +kernel
theorem dX4_isName_78 : decode cX4_isName 78 = .ok (.ifCond .eq 7, 3) := by decide +kernel
theorem dX4_isName_81 : decode cX4_isName 81 = .ok (.iconst 1, 1) := by decide +kernel
theorem dX4_isName_82 : decode cX4_isName 82 = .ok (.goto 4, 3) := by decide +kernel
theorem dX4_isName_85 : decode cX4_isName 85 = .ok (.iconst 0, 1) := by decide +kernel
theorem dX4_isName_86 : decode cX4_isName 86 = .ok (.istore_n 1, 1) := by decide +kernel
theorem dX4_isName_87 : decode cX4_isName 87 = .ok (.aload_n 0, 1) := by decide +kernel
theorem dX4_isName_88 : decode cX4_isName 88 = .ok (.getfield 57, 3) := by decide +kernel
theorem dX4_isName_91 : decode cX4_isName 91 = .ok (.iconst 1, 1) := by decide +kernel
theorem dX4_isName_92 : decode cX4_isName 92 = .ok (.if_icmp .ne 11, 3) := by decide +kernel
theorem dX4_isName_95 : decode cX4_isName 95 = .ok (.iload_n 1, 1) := by decide +kernel
theorem dX4_isName_96 : decode cX4_isName 96 = .ok (.ifCond .ne 7, 3) := by decide +kernel
theorem dX4_isName_99 : decode cX4_isName 99 = .ok (.iconst 1, 1) := by decide +kernel
theorem dX4_isName_100 : decode cX4_isName 100 = .ok (.goto 4, 3) := by decide +kernel
theorem dX4_isName_103 : decode cX4_isName 103 = .ok (.iconst 0, 1) := by decide +kernel
theorem dX4_isName_104 : decode cX4_isName 104 = .ok (.ireturn, 1) := by decide +kernel
theorem dX4_isWord_0 : decode cX4_isWord 0 = .ok (.aload_n 0, 1) := by decide +kernel
theorem dX4_isWord_1 : decode cX4_isWord 1 = .ok (.getfield 57, 3) := by decide +kernel
theorem dX4_isWord_4 : decode cX4_isWord 4 = .ok (.iconst 1, 1) := by decide +kernel
theorem dX4_isWord_5 : decode cX4_isWord 5 = .ok (.if_icmp .ne 19, 3) := by decide +kernel
theorem dX4_isWord_8 : decode cX4_isWord 8 = .ok (.aload_n 0, 1) := by decide +kernel
theorem dX4_isWord_9 : decode cX4_isWord 9 = .ok (.getfield 38, 3) := by decide +kernel
theorem dX4_isWord_12 : decode cX4_isWord 12 = .ok (.aload_n 0, 1) := by decide +kernel
theorem dX4_isWord_13 : decode cX4_isWord 13 = .ok (.getfield 63, 3) := by decide +kernel
theorem dX4_isWord_16 : decode cX4_isWord 16 = .ok (.isub, 1) := by decide +kernel
theorem dX4_isWord_17 : decode cX4_isWord 17 = .ok (.aload_n 1, 1) := by decide +kernel
theorem dX4_isWord_18 : decode cX4_isWord 18 = .ok (.invokevirtual 81, 3) := by decide +kernel
theorem dX4_isWord_21 : decode cX4_isWord 21 = .ok (.if_icmp .eq 5, 3) := by decide +kernel
theorem dX4_isWord_24 : decode cX4_isWord 24 = .ok (.iconst 0, 1) := by decide +kernel
theorem dX4_isWord_25 : decode cX4_isWord 25 = .ok (.ireturn, 1) := by decide +kernel
theorem dX4_isWord_26 : decode cX4_isWord 26 = .ok (.iconst 0, 1) := by decide +kernel
theorem dX4_isWord_27 : decode cX4_isWord 27 = .ok (.istore_n 2, 1) := by decide +kernel
theorem dX4_isWord_28 : decode cX4_isWord 28 = .ok (.iload_n 2, 1) := by decide +kernel
theorem dX4_isWord_29 : decode cX4_isWord 29 = .ok (.aload_n 1, 1) := by decide +kernel
theorem dX4_isWord_30 : decode cX4_isWord 30 = .ok (.invokevirtual 81, 3) := by decide +kernel
theorem dX4_isWord_33 : decode cX4_isWord 33 = .ok (.if_icmp .ge 43, 3) := by decide +kernel
theorem dX4_isWord_36 : decode cX4_isWord 36 = .ok (.aload_n 0, 1) := by decide +kernel
theorem dX4_isWord_37 : decode cX4_isWord 37 = .ok (.getfield 63, 3) := by decide +kernel
theorem dX4_isWord_40 : decode cX4_isWord 40 = .ok (.iload_n 2, 1) := by decide +kernel
theorem dX4_isWord_41 : decode cX4_isWord 41 = .ok (.iadd, 1) := by decide +kernel
theorem dX4_isWord_42 : decode cX4_isWord 42 = .ok (.aload_n 0, 1) := by decide +kernel
theorem dX4_isWord_43 : decode cX4_isWord 43 = .ok (.getfield 34, 3) := by decide +kernel
theorem dX4_isWord_46 : decode cX4_isWord 46 = .ok (.if_icmp .ge 30, 3) := by decide +kernel
theorem dX4_isWord_49 : decode cX4_isWord 49 = .ok (.aload_n 0, 1) := by decide +kernel
theorem dX4_isWord_50 : decode cX4_isWord 50 = .ok (.getfield 11, 3) := by decide +kernel
theorem dX4_isWord_53 : decode cX4_isWord 53 = .ok (.aload_n 0, 1) := by decide +kernel
theorem dX4_isWord_54 : decode cX4_isWord 54 = .ok (.getfield 63, 3) := by decide +kernel
theorem dX4_isWord_57 : decode cX4_isWord 57 = .ok (.iload_n 2, 1) := by decide +kernel
theorem dX4_isWord_58 : decode cX4_isWord 58 = .ok (.iadd, 1) := by decide +kernel
theorem dX4_isWord_59 : decode cX4_isWord 59 = .ok (.iaload, 1) := by decide +kernel
theorem dX4_isWord_60 : decode cX4_isWord 60 = .ok (.aload_n 1, 1) := by decide +kernel
theorem dX4_isWord_61 : decode cX4_isWord 61 = .ok (.iload_n 2, 1) := by decide +kernel
theorem dX4_isWord_62 : decode cX4_isWord 62 = .ok (.invokevirtual 86, 3) := by decide +kernel
theorem dX4_isWord_65 : decode cX4_isWord 65 = .ok (.if_icmp .eq 5, 3) := by decide +kernel
theorem dX4_isWord_68 : decode cX4_isWord 68 = .ok (.iconst 0, 1) := by decide +kernel
theorem dX4_isWord_69 : decode cX4_isWord 69 = .ok (.ireturn, 1) := by decide +kernel
theorem dX4_isWord_70 : decode cX4_isWord 70 = .ok (.iinc 2 1, 3) := by decide +kernel
theorem dX4_isWord_73 : decode cX4_isWord 73 = .ok (.goto (-45), 3) := by decide +kernel
theorem dX4_isWord_76 : decode cX4_isWord 76 = .ok (.iconst 1, 1) := by decide +kernel
theorem dX4_isWord_77 : decode cX4_isWord 77 = .ok (.ireturn, 1) := by decide +kernel
theorem dX4_mayTellRings_0 : decode cX4_mayTellRings 0 = .ok (.iload_n 1, 1) := by decide +kernel
theorem dX4_mayTellRings_1 : decode cX4_mayTellRings 1 = .ok (.iload_n 2, 1) := by decide +kernel
theorem dX4_mayTellRings_2 : decode cX4_mayTellRings 2 = .ok (.if_icmp .lt 13, 3) := by decide +kernel
theorem dX4_mayTellRings_5 : decode cX4_mayTellRings 5 = .ok (.aload_n 0, 1) := by decide +kernel
theorem dX4_mayTellRings_6 : decode cX4_mayTellRings 6 = .ok (.iconst 5, 1) := by decide +kernel
theorem dX4_mayTellRings_7 : decode cX4_mayTellRings 7 = .ok (.aload_n 0, 1) := by decide +kernel
theorem dX4_mayTellRings_8 : decode cX4_mayTellRings 8 = .ok (.getfield 63, 3) := by decide +kernel
theorem dX4_mayTellRings_11 : decode cX4_mayTellRings 11 = .ok (.invokevirtual 66, 3) := by decide +kernel
theorem dX4_mayTellRings_14 : decode cX4_mayTellRings 14 = .ok (.ireturn, 1) := by decide +kernel
theorem dX4_mayTellRings_15 : decode cX4_mayTellRings 15 = .ok (.aload_n 0, 1) := by decide +kernel
theorem dX4_mayTellRings_16 : decode cX4_mayTellRings 16 = .ok (.getfield 17, 3) := by decide +kernel
theorem dX4_mayTellRings_19 : decode cX4_mayTellRings 19 = .ok (.getfield 60, 3) := by decide +kernel
theorem dX4_mayTellRings_22 : decode cX4_mayTellRings 22 = .ok (.ifCond .gt 16, 3) := by decide +kernel
theorem dX4_mayTellRings_25 : decode cX4_mayTellRings 25 = .ok (.aload_n 0, 1) := by decide +kernel
theorem dX4_mayTellRings_26 : decode cX4_mayTellRings 26 = .ok (.bipush 6, 2) := by decide +kernel
theorem dX4_mayTellRings_28 : decode cX4_mayTellRings 28 = .ok (.aload_n 0, 1) := by decide +kernel
theorem dX4_mayTellRings_29 : decode cX4_mayTellRings 29 = .ok (.getfield 63, 3) := by decide +kernel
theorem dX4_mayTellRings_32 : decode cX4_mayTellRings 32 = .ok (.invokevirtual 66, 3) := by decide +kernel
theorem dX4_mayTellRings_35 : decode cX4_mayTellRings 35 = .ok (.ifCond .eq 7, 3) := by decide +kernel
theorem dX4_mayTellRings_38 : decode cX4_mayTellRings 38 = .ok (.iconst 1, 1) := by decide +kernel
theorem dX4_mayTellRings_39 : decode cX4_mayTellRings 39 = .ok (.goto 4, 3) := by decide +kernel
theorem dX4_mayTellRings_42 : decode cX4_mayTellRings 42 = .ok (.iconst 0, 1) := by decide +kernel
theorem dX4_mayTellRings_43 : decode cX4_mayTellRings 43 = .ok (.ireturn, 1) := by decide +kernel
theorem dX4_nameNumber_0 : decode cX4_nameNumber 0 = .ok (.iconst 0, 1) := by decide +kernel
theorem dX4_nameNumber_1 : decode cX4_nameNumber 1 = .ok (.istore_n 1, 1) := by decide +kernel
theorem dX4_nameNumber_2 : decode cX4_nameNumber 2 = .ok (.iload_n 1, 1) := by decide +kernel
theorem dX4_nameNumber_3 : decode cX4_nameNumber 3 = .ok (.aload_n 0, 1) := by decide +kernel
theorem dX4_nameNumber_4 : decode cX4_nameNumber 4 = .ok (.getfield 41, 3) := by decide +kernel
theorem dX4_nameNumber_7 : decode cX4_nameNumber 7 = .ok (.if_icmp .ge 31, 3) := by decide +kernel
theorem dX4_nameNumber_10 : decode cX4_nameNumber 10 = .ok (.iload_n 1, 1) := by decide +kernel
theorem dX4_nameNumber_11 : decode cX4_nameNumber 11 = .ok (.bipush 35, 2) := by decide +kernel
theorem dX4_nameNumber_13 : decode cX4_nameNumber 13 = .ok (.if_icmp .ge 25, 3) := by decide +kernel
theorem dX4_nameNumber_16 : decode cX4_nameNumber 16 = .ok (.aload_n 0, 1) := by decide +kernel
theorem dX4_nameNumber_17 : decode cX4_nameNumber 17 = .ok (.getfield 21, 3) := by decide +kernel
theorem dX4_nameNumber_20 : decode cX4_nameNumber 20 = .ok (.iload_n 1, 1) := by decide +kernel
theorem dX4_nameNumber_21 : decode cX4_nameNumber 21 = .ok (.laload, 1) := by decide +kernel
theorem dX4_nameNumber_22 : decode cX4_nameNumber 22 = .ok (.aload_n 0, 1) := by decide +kernel
theorem dX4_nameNumber_23 : decode cX4_nameNumber 23 = .ok (.getfield 70, 3) := by decide +kernel
theorem dX4_nameNumber_26 : decode cX4_nameNumber 26 = .ok (.lcmp, 1) := by decide +kernel
theorem dX4_nameNumber_27 : decode cX4_nameNumber 27 = .ok (.ifCond .ne 5, 3) := by decide +kernel
theorem dX4_nameNumber_30 : decode cX4_nameNumber 30 = .ok (.iload_n 1, 1) := by decide +kernel
theorem dX4_nameNumber_31 : decode cX4_nameNumber 31 = .ok (.ireturn, 1) := by decide +kernel
theorem dX4_nameNumber_32 : decode cX4_nameNumber 32 = .ok (.iinc 1 1, 3) := by decide +kernel
theorem dX4_nameNumber_35 : decode cX4_nameNumber 35 = .ok (.goto (-33), 3) := by decide +kernel
theorem dX4_nameNumber_38 : decode cX4_nameNumber 38 = .ok (.iconst (-1), 1) := by decide +kernel
theorem dX4_nameNumber_39 : decode cX4_nameNumber 39 = .ok (.ireturn, 1) := by decide +kernel
theorem dX4_needComma_0 : decode cX4_needComma 0 = .ok (.aload_n 0, 1) := by decide +kernel
theorem dX4_needComma_1 : decode cX4_needComma 1 = .ok (.getfield 57, 3) := by decide +kernel
theorem dX4_needComma_4 : decode cX4_needComma 4 = .ok (.iconst 4, 1) := by decide +kernel
theorem dX4_needComma_5 : decode cX4_needComma 5 = .ok (.if_icmp .eq 13, 3) := by decide +kernel
theorem dX4_needComma_8 : decode cX4_needComma 8 = .ok (.aload_n 0, 1) := by decide +kernel
theorem dX4_needComma_9 : decode cX4_needComma 9 = .ok (.iconst 1, 1) := by decide +kernel
theorem dX4_needComma_10 : decode cX4_needComma 10 = .ok (.aload_n 0, 1) := by decide +kernel
theorem dX4_needComma_11 : decode cX4_needComma 11 = .ok (.getfield 63, 3) := by decide +kernel
theorem dX4_needComma_14 : decode cX4_needComma 14 = .ok (.invokevirtual 66, 3) := by decide +kernel
theorem dX4_needComma_17 : decode cX4_needComma 17 = .ok (.ireturn, 1) := by decide +kernel
theorem dX4_needComma_18 : decode cX4_needComma 18 = .ok (.aload_n 0, 1) := by decide +kernel
theorem dX4_needComma_19 : decode cX4_needComma 19 = .ok (.invokevirtual 50, 3) := by decide +kernel
theorem dX4_needComma_22 : decode cX4_needComma 22 = .ok (.iconst 1, 1) := by decide +kernel
theorem dX4_needComma_23 : decode cX4_needComma 23 = .ok (.ireturn, 1) := by decide +kernel
theorem dX4_needGood_0 : decode cX4_needGood 0 = .ok (.aload_n 0, 1) := by decide +kernel
theorem dX4_needGood_1 : decode cX4_needGood 1 = .ok (.invokevirtual 127, 3) := by decide +kernel
theorem dX4_needGood_4 : decode cX4_needGood 4 = .ok (.ifCond .ne 13, 3) := by decide +kernel
theorem dX4_needGood_7 : decode cX4_needGood 7 = .ok (.aload_n 0, 1) := by decide +kernel
theorem dX4_needGood_8 : decode cX4_needGood 8 = .ok (.iconst 1, 1) := by decide +kernel
theorem dX4_needGood_9 : decode cX4_needGood 9 = .ok (.aload_n 0, 1) := by decide +kernel
theorem dX4_needGood_10 : decode cX4_needGood 10 = .ok (.getfield 63, 3) := by decide +kernel
theorem dX4_needGood_13 : decode cX4_needGood 13 = .ok (.invokevirtual 66, 3) := by decide +kernel
theorem dX4_needGood_16 : decode cX4_needGood 16 = .ok (.ireturn, 1) := by decide +kernel
theorem dX4_needGood_17 : decode cX4_needGood 17 = .ok (.aload_n 0, 1) := by decide +kernel
theorem dX4_needGood_18 : decode cX4_needGood 18 = .ok (.invokevirtual 130, 3) := by decide +kernel
theorem dX4_needGood_21 : decode cX4_needGood 21 = .ok (.istore_n 3, 1) := by decide +kernel
theorem dX4_needGood_22 : decode cX4_needGood 22 = .ok (.iload_n 3, 1) := by decide +kernel
theorem dX4_needGood_23 : decode cX4_needGood 23 = .ok (.iconst (-1), 1) := by decide +kernel
theorem dX4_needGood_24 : decode cX4_needGood 24 = .ok (.if_icmp .eq 13, 3) := by decide +kernel
theorem dX4_needGood_27 : decode cX4_needGood 27 = .ok (.aload_n 0, 1) := by decide +kernel
theorem dX4_needGood_28 : decode cX4_needGood 28 = .ok (.getfield 25, 3) := by decide +kernel
theorem dX4_needGood_31 : decode cX4_needGood 31 = .ok (.iload_n 3, 1) := by decide +kernel
theorem dX4_needGood_32 : decode cX4_needGood 32 = .ok (.iaload, 1) := by decide +kernel
theorem dX4_needGood_33 : decode cX4_needGood 33 = .ok (.iconst (-1), 1) := by decide +kernel
theorem dX4_needGood_34 : decode cX4_needGood 34 = .ok (.if_icmp .ne 13, 3) := by decide +kernel
theorem dX4_needGood_37 : decode cX4_needGood 37 = .ok (.aload_n 0, 1) := by decide +kernel
theorem dX4_needGood_38 : decode cX4_needGood 38 = .ok (.iconst 2, 1) := by decide +kernel
theorem dX4_needGood_39 : decode cX4_needGood 39 = .ok (.aload_n 0, 1) := by decide +kernel
theorem dX4_needGood_40 : decode cX4_needGood 40 = .ok (.getfield 63, 3) := by decide +kernel
theorem dX4_needGood_43 : decode cX4_needGood 43 = .ok (.invokevirtual 66, 3) := by decide +kernel
theorem dX4_needGood_46 : decode cX4_needGood 46 = .ok (.ireturn, 1) := by decide +kernel
theorem dX4_needGood_47 : decode cX4_needGood 47 = .ok (.aload_n 0, 1) := by decide +kernel
theorem dX4_needGood_48 : decode cX4_needGood 48 = .ok (.aload_n 0, 1) := by decide +kernel
theorem dX4_needGood_49 : decode cX4_needGood 49 = .ok (.getfield 25, 3) := by decide +kernel
theorem dX4_needGood_52 : decode cX4_needGood 52 = .ok (.iload_n 3, 1) := by decide +kernel
theorem dX4_needGood_53 : decode cX4_needGood 53 = .ok (.iaload, 1) := by decide +kernel
theorem dX4_needGood_54 : decode cX4_needGood 54 = .ok (.putfield 111, 3) := by decide +kernel
theorem dX4_needGood_57 : decode cX4_needGood 57 = .ok (.aload_n 0, 1) := by decide +kernel
theorem dX4_needGood_58 : decode cX4_needGood 58 = .ok (.aload_n 1, 1) := by decide +kernel
theorem dX4_needGood_59 : decode cX4_needGood 59 = .ok (.iload_n 2, 1) := by decide +kernel
theorem dX4_needGood_60 : decode cX4_needGood 60 = .ok (.invokevirtual 120, 3) := by decide +kernel
theorem dX4_needGood_63 : decode cX4_needGood 63 = .ok (.aload_n 0, 1) := by decide +kernel
theorem dX4_needGood_64 : decode cX4_needGood 64 = .ok (.invokevirtual 50, 3) := by decide +kernel
theorem dX4_needGood_67 : decode cX4_needGood 67 = .ok (.iconst 1, 1) := by decide +kernel
theorem dX4_needGood_68 : decode cX4_needGood 68 = .ok (.ireturn, 1) := by decide +kernel
theorem dX4_needNewName_0 : decode cX4_needNewName 0 = .ok (.aload_n 0, 1) := by decide +kernel
theorem dX4_needNewName_1 : decode cX4_needNewName 1 = .ok (.invokevirtual 127, 3) := by decide +kernel
theorem dX4_needNewName_4 : decode cX4_needNewName 4 = .ok (.ifCond .ne 13, 3) := by decide +kernel
theorem dX4_needNewName_7 : decode cX4_needNewName 7 = .ok (.aload_n 0, 1) := by decide +kernel
theorem dX4_needNewName_8 : decode cX4_needNewName 8 = .ok (.iconst 1, 1) := by decide +kernel
theorem dX4_needNewName_9 : decode cX4_needNewName 9 = .ok (.aload_n 0, 1) := by decide +kernel
theorem dX4_needNewName_10 : decode cX4_needNewName 10 = .ok (.getfield 63, 3) := by decide +kernel
theorem dX4_needNewName_13 : decode cX4_needNewName 13 = .ok (.invokevirtual 66, 3) := by decide +kernel
theorem dX4_needNewName_16 : decode cX4_needNewName 16 = .ok (.ireturn, 1) := by decide +kernel
theorem dX4_needNewName_17 : decode cX4_needNewName 17 = .ok (.aload_n 0, 1) := by decide +kernel
theorem dX4_needNewName_18 : decode cX4_needNewName 18 = .ok (.invokevirtual 130, 3) := by decide +kernel
theorem dX4_needNewName_21 : decode cX4_needNewName 21 = .ok (.iconst (-1), 1) := by decide +kernel
theorem dX4_needNewName_22 : decode cX4_needNewName 22 = .ok (.if_icmp .ne 12, 3) := by decide +kernel
theorem dX4_needNewName_25 : decode cX4_needNewName 25 = .ok (.aload_n 0, 1) := by decide +kernel
theorem dX4_needNewName_26 : decode cX4_needNewName 26 = .ok (.getfield 41, 3) := by decide +kernel
theorem dX4_needNewName_29 : decode cX4_needNewName 29 = .ok (.bipush 35, 2) := by decide +kernel
theorem dX4_needNewName_31 : decode cX4_needNewName 31 = .ok (.if_icmp .lt 13, 3) := by decide +kernel
theorem dX4_needNewName_34 : decode cX4_needNewName 34 = .ok (.aload_n 0, 1) := by decide +kernel
theorem dX4_needNewName_35 : decode cX4_needNewName 35 = .ok (.iconst 3, 1) := by decide +kernel
theorem dX4_needNewName_36 : decode cX4_needNewName 36 = .ok (.aload_n 0, 1) := by decide +kernel
theorem dX4_needNewName_37 : decode cX4_needNewName 37 = .ok (.getfield 63, 3) := by decide +kernel
theorem dX4_needNewName_40 : decode cX4_needNewName 40 = .ok (.invokevirtual 66, 3) := by decide +kernel
theorem dX4_needNewName_43 : decode cX4_needNewName 43 = .ok (.ireturn, 1) := by decide +kernel
theorem dX4_needNewName_44 : decode cX4_needNewName 44 = .ok (.aload_n 0, 1) := by decide +kernel
theorem dX4_needNewName_45 : decode cX4_needNewName 45 = .ok (.getfield 21, 3) := by decide +kernel
theorem dX4_needNewName_48 : decode cX4_needNewName 48 = .ok (.aload_n 0, 1) := by decide +kernel
theorem dX4_needNewName_49 : decode cX4_needNewName 49 = .ok (.getfield 41, 3) := by decide +kernel
theorem dX4_needNewName_52 : decode cX4_needNewName 52 = .ok (.aload_n 0, 1) := by decide +kernel
theorem dX4_needNewName_53 : decode cX4_needNewName 53 = .ok (.getfield 70, 3) := by decide +kernel
theorem dX4_needNewName_56 : decode cX4_needNewName 56 = .ok (.lastore, 1) := by decide +kernel
theorem dX4_needNewName_57 : decode cX4_needNewName 57 = .ok (.aload_n 0, 1) := by decide +kernel
theorem dX4_needNewName_58 : decode cX4_needNewName 58 = .ok (.getfield 25, 3) := by decide +kernel
theorem dX4_needNewName_61 : decode cX4_needNewName 61 = .ok (.aload_n 0, 1) := by decide +kernel
theorem dX4_needNewName_62 : decode cX4_needNewName 62 = .ok (.getfield 41, 3) := by decide +kernel
theorem dX4_needNewName_65 : decode cX4_needNewName 65 = .ok (.iload_n 1, 1) := by decide +kernel
theorem dX4_needNewName_66 : decode cX4_needNewName 66 = .ok (.iastore, 1) := by decide +kernel
theorem dX4_needNewName_67 : decode cX4_needNewName 67 = .ok (.aload_n 0, 1) := by decide +kernel
theorem dX4_needNewName_68 : decode cX4_needNewName 68 = .ok (.dup, 1) := by decide +kernel
theorem dX4_needNewName_69 : decode cX4_needNewName 69 = .ok (.getfield 41, 3) := by decide +kernel
theorem dX4_needNewName_72 : decode cX4_needNewName 72 = .ok (.iconst 1, 1) := by decide +kernel
theorem dX4_needNewName_73 : decode cX4_needNewName 73 = .ok (.iadd, 1) := by decide +kernel
theorem dX4_needNewName_74 : decode cX4_needNewName 74 = .ok (.putfield 41, 3) := by decide +kernel
theorem dX4_needNewName_77 : decode cX4_needNewName 77 = .ok (.aload_n 0, 1) := by decide +kernel
theorem dX4_needNewName_78 : decode cX4_needNewName 78 = .ok (.invokevirtual 50, 3) := by decide +kernel
theorem dX4_needNewName_81 : decode cX4_needNewName 81 = .ok (.iconst 1, 1) := by decide +kernel
theorem dX4_needNewName_82 : decode cX4_needNewName 82 = .ok (.ireturn, 1) := by decide +kernel
theorem dX4_needPlace_0 : decode cX4_needPlace 0 = .ok (.aload_n 0, 1) := by decide +kernel
theorem dX4_needPlace_1 : decode cX4_needPlace 1 = .ok (.invokevirtual 124, 3) := by decide +kernel
theorem dX4_needPlace_4 : decode cX4_needPlace 4 = .ok (.ifCond .eq 13, 3) := by decide +kernel
theorem dX4_needPlace_7 : decode cX4_needPlace 7 = .ok (.aload_n 0, 1) := by decide +kernel
theorem dX4_needPlace_8 : decode cX4_needPlace 8 = .ok (.iconst 0, 1) := by decide +kernel
theorem dX4_needPlace_9 : decode cX4_needPlace 9 = .ok (.bipush 11, 2) := by decide +kernel
theorem dX4_needPlace_11 : decode cX4_needPlace 11 = .ok (.invokevirtual 117, 3) := by decide +kernel
theorem dX4_needPlace_14 : decode cX4_needPlace 14 = .ok (.ifCond .ne 5, 3) := by decide +kernel
theorem dX4_needPlace_17 : decode cX4_needPlace 17 = .ok (.iconst 0, 1) := by decide +kernel
theorem dX4_needPlace_18 : decode cX4_needPlace 18 = .ok (.ireturn, 1) := by decide +kernel
theorem dX4_needPlace_19 : decode cX4_needPlace 19 = .ok (.aload_n 0, 1) := by decide +kernel
theorem dX4_needPlace_20 : decode cX4_needPlace 20 = .ok (.aload_n 1, 1) := by decide +kernel
theorem dX4_needPlace_21 : decode cX4_needPlace 21 = .ok (.iload_n 2, 1) := by decide +kernel
theorem dX4_needPlace_22 : decode cX4_needPlace 22 = .ok (.invokevirtual 120, 3) := by decide +kernel
theorem dX4_needPlace_25 : decode cX4_needPlace 25 = .ok (.iconst 1, 1) := by decide +kernel
theorem dX4_needPlace_26 : decode cX4_needPlace 26 = .ok (.ireturn, 1) := by decide +kernel
theorem dX4_needSaid_0 : decode cX4_needSaid 0 = .ok (.aload_n 0, 1) := by decide +kernel
theorem dX4_needSaid_1 : decode cX4_needSaid 1 = .ok (.aload_n 1, 1) := by decide +kernel
theorem dX4_needSaid_2 : decode cX4_needSaid 2 = .ok (.invokevirtual 114, 3) := by decide +kernel
theorem dX4_needSaid_5 : decode cX4_needSaid 5 = .ok (.ifCond .eq 12, 3) := by decide +kernel
theorem dX4_needSaid_8 : decode cX4_needSaid 8 = .ok (.aload_n 0, 1) := by decide +kernel
theorem dX4_needSaid_9 : decode cX4_needSaid 9 = .ok (.iload_n 2, 1) := by decide +kernel
theorem dX4_needSaid_10 : decode cX4_needSaid 10 = .ok (.iload_n 3, 1) := by decide +kernel
theorem dX4_needSaid_11 : decode cX4_needSaid 11 = .ok (.invokevirtual 117, 3) := by decide +kernel
theorem dX4_needSaid_14 : decode cX4_needSaid 14 = .ok (.ifCond .ne 5, 3) := by decide +kernel
theorem dX4_needSaid_17 : decode cX4_needSaid 17 = .ok (.iconst 0, 1) := by decide +kernel
theorem dX4_needSaid_18 : decode cX4_needSaid 18 = .ok (.ireturn, 1) := by decide +kernel
theorem dX4_needSaid_19 : decode cX4_needSaid 19 = .ok (.aload_n 0, 1) := by decide +kernel
theorem dX4_needSaid_20 : decode cX4_needSaid 20 = .ok (.aload 4, 2) := by decide +kernel
theorem dX4_needSaid_22 : decode cX4_needSaid 22 = .ok (.iload 5, 2) := by decide +kernel
theorem dX4_needSaid_24 : decode cX4_needSaid 24 = .ok (.invokevirtual 120, 3) := by decide +kernel
theorem dX4_needSaid_27 : decode cX4_needSaid 27 = .ok (.iconst 1, 1) := by decide +kernel
theorem dX4_needSaid_28 : decode cX4_needSaid 28 = .ok (.ireturn, 1) := by decide +kernel
theorem dX4_needWhole_0 : decode cX4_needWhole 0 = .ok (.aload_n 0, 1) := by decide +kernel
theorem dX4_needWhole_1 : decode cX4_needWhole 1 = .ok (.getfield 57, 3) := by decide +kernel
theorem dX4_needWhole_4 : decode cX4_needWhole 4 = .ok (.iconst 2, 1) := by decide +kernel
theorem dX4_needWhole_5 : decode cX4_needWhole 5 = .ok (.if_icmp .eq 13, 3) := by decide +kernel
theorem dX4_needWhole_8 : decode cX4_needWhole 8 = .ok (.aload_n 0, 1) := by decide +kernel
theorem dX4_needWhole_9 : decode cX4_needWhole 9 = .ok (.iconst 1, 1) := by decide +kernel
theorem dX4_needWhole_10 : decode cX4_needWhole 10 = .ok (.aload_n 0, 1) := by decide +kernel
theorem dX4_needWhole_11 : decode cX4_needWhole 11 = .ok (.getfield 63, 3) := by decide +kernel
theorem dX4_needWhole_14 : decode cX4_needWhole 14 = .ok (.invokevirtual 66, 3) := by decide +kernel
theorem dX4_needWhole_17 : decode cX4_needWhole 17 = .ok (.ireturn, 1) := by decide +kernel
theorem dX4_needWhole_18 : decode cX4_needWhole 18 = .ok (.aload_n 0, 1) := by decide +kernel
theorem dX4_needWhole_19 : decode cX4_needWhole 19 = .ok (.getfield 78, 3) := by decide +kernel
theorem dX4_needWhole_22 : decode cX4_needWhole 22 = .ok (.iload_n 1, 1) := by decide +kernel
theorem dX4_needWhole_23 : decode cX4_needWhole 23 = .ok (.if_icmp .lt 11, 3) := by decide +kernel
theorem dX4_needWhole_26 : decode cX4_needWhole 26 = .ok (.aload_n 0, 1) := by decide +kernel
theorem dX4_needWhole_27 : decode cX4_needWhole 27 = .ok (.getfield 78, 3) := by decide +kernel
theorem dX4_needWhole_30 : decode cX4_needWhole 30 = .ok (.iload_n 2, 1) := by decide +kernel
theorem dX4_needWhole_31 : decode cX4_needWhole 31 = .ok (.if_icmp .le 13, 3) := by decide +kernel
theorem dX4_needWhole_34 : decode cX4_needWhole 34 = .ok (.aload_n 0, 1) := by decide +kernel
theorem dX4_needWhole_35 : decode cX4_needWhole 35 = .ok (.iconst 4, 1) := by decide +kernel
theorem dX4_needWhole_36 : decode cX4_needWhole 36 = .ok (.aload_n 0, 1) := by decide +kernel
theorem dX4_needWhole_37 : decode cX4_needWhole 37 = .ok (.getfield 63, 3) := by decide +kernel
theorem dX4_needWhole_40 : decode cX4_needWhole 40 = .ok (.invokevirtual 66, 3) := by decide +kernel
theorem dX4_needWhole_43 : decode cX4_needWhole 43 = .ok (.ireturn, 1) := by decide +kernel
theorem dX4_needWhole_44 : decode cX4_needWhole 44 = .ok (.aload_n 0, 1) := by decide +kernel
theorem dX4_needWhole_45 : decode cX4_needWhole 45 = .ok (.aload_n 0, 1) := by decide +kernel
theorem dX4_needWhole_46 : decode cX4_needWhole 46 = .ok (.getfield 78, 3) := by decide +kernel
theorem dX4_needWhole_49 : decode cX4_needWhole 49 = .ok (.putfield 111, 3) := by decide +kernel
theorem dX4_needWhole_52 : decode cX4_needWhole 52 = .ok (.aload_n 0, 1) := by decide +kernel
theorem dX4_needWhole_53 : decode cX4_needWhole 53 = .ok (.invokevirtual 50, 3) := by decide +kernel
theorem dX4_needWhole_56 : decode cX4_needWhole 56 = .ok (.iconst 1, 1) := by decide +kernel
theorem dX4_needWhole_57 : decode cX4_needWhole 57 = .ok (.ireturn, 1) := by decide +kernel
theorem dX4_needWord_0 : decode cX4_needWord 0 = .ok (.aload_n 0, 1) := by decide +kernel
theorem dX4_needWord_1 : decode cX4_needWord 1 = .ok (.aload_n 1, 1) := by decide +kernel
theorem dX4_needWord_2 : decode cX4_needWord 2 = .ok (.invokevirtual 91, 3) := by decide +kernel
theorem dX4_needWord_5 : decode cX4_needWord 5 = .ok (.ifCond .ne 13, 3) := by decide +kernel
theorem dX4_needWord_8 : decode cX4_needWord 8 = .ok (.aload_n 0, 1) := by decide +kernel
theorem dX4_needWord_9 : decode cX4_needWord 9 = .ok (.iconst 1, 1) := by decide +kernel
theorem dX4_needWord_10 : decode cX4_needWord 10 = .ok (.aload_n 0, 1) := by decide +kernel
theorem dX4_needWord_11 : decode cX4_needWord 11 = .ok (.getfield 63, 3) := by decide +kernel
theorem dX4_needWord_14 : decode cX4_needWord 14 = .ok (.invokevirtual 66, 3) := by decide +kernel
theorem dX4_needWord_17 : decode cX4_needWord 17 = .ok (.ireturn, 1) := by decide +kernel
theorem dX4_needWord_18 : decode cX4_needWord 18 = .ok (.aload_n 0, 1) := by decide +kernel
theorem dX4_needWord_19 : decode cX4_needWord 19 = .ok (.invokevirtual 50, 3) := by decide +kernel
theorem dX4_needWord_22 : decode cX4_needWord 22 = .ok (.iconst 1, 1) := by decide +kernel
theorem dX4_needWord_23 : decode cX4_needWord 23 = .ok (.ireturn, 1) := by decide +kernel
theorem dX4_orderLine_0 : decode cX4_orderLine 0 = .ok (.aload_n 0, 1) := by decide +kernel
theorem dX4_orderLine_1 : decode cX4_orderLine 1 = .ok (.aload_n 0, 1) := by decide +kernel
theorem dX4_orderLine_2 : decode cX4_orderLine 2 = .ok (.getfield 17, 3) := by decide +kernel
theorem dX4_orderLine_5 : decode cX4_orderLine 5 = .ok (.getfield 237, 3) := by decide +kernel
theorem dX4_orderLine_8 : decode cX4_orderLine 8 = .ok (.bipush 8, 2) := by decide +kernel
theorem dX4_orderLine_10 : decode cX4_orderLine 10 = .ok (.invokevirtual 157, 3) := by decide +kernel
theorem dX4_orderLine_13 : decode cX4_orderLine 13 = .ok (.ifCond .ne 5, 3) := by decide +kernel
theorem dX4_orderLine_16 : decode cX4_orderLine 16 = .ok (.iconst 0, 1) := by decide +kernel
theorem dX4_orderLine_17 : decode cX4_orderLine 17 = .ok (.ireturn, 1) := by decide +kernel
theorem dX4_orderLine_18 : decode cX4_orderLine 18 = .ok (.aload_n 0, 1) := by decide +kernel
theorem dX4_orderLine_19 : decode cX4_orderLine 19 = .ok (.getfield 17, 3) := by decide +kernel
theorem dX4_orderLine_22 : decode cX4_orderLine 22 = .ok (.getfield 240, 3) := by decide +kernel
theorem dX4_orderLine_25 : decode cX4_orderLine 25 = .ok (.aload_n 0, 1) := by decide +kernel
theorem dX4_orderLine_26 : decode cX4_orderLine 26 = .ok (.getfield 17, 3) := by decide +kernel
theorem dX4_orderLine_29 : decode cX4_orderLine 29 = .ok (.getfield 237, 3) := by decide +kernel
theorem dX4_orderLine_32 : decode cX4_orderLine 32 = .ok (.aaload, 1) := by decide +kernel
theorem dX4_orderLine_33 : decode cX4_orderLine 33 = .ok (.astore_n 1, 1) := by decide +kernel
theorem dX4_orderLine_34 : decode cX4_orderLine 34 = .ok (.aload_n 0, 1) := by decide +kernel
theorem dX4_orderLine_35 : decode cX4_orderLine 35 = .ok (.getfield 17, 3) := by decide +kernel
theorem dX4_orderLine_38 : decode cX4_orderLine 38 = .ok (.dup, 1) := by decide +kernel
theorem dX4_orderLine_39 : decode cX4_orderLine 39 = .ok (.getfield 237, 3) := by decide +kernel
theorem dX4_orderLine_42 : decode cX4_orderLine 42 = .ok (.iconst 1, 1) := by decide +kernel
theorem dX4_orderLine_43 : decode cX4_orderLine 43 = .ok (.iadd, 1) := by decide +kernel
theorem dX4_orderLine_44 : decode cX4_orderLine 44 = .ok (.putfield 237, 3) := by decide +kernel
theorem dX4_orderLine_47 : decode cX4_orderLine 47 = .ok (.aload_n 0, 1) := by decide +kernel
theorem dX4_orderLine_48 : decode cX4_orderLine 48 = .ok (.invokevirtual 50, 3) := by decide +kernel
theorem dX4_orderLine_51 : decode cX4_orderLine 51 = .ok (.aload_n 0, 1) := by decide +kernel
theorem dX4_orderLine_52 : decode cX4_orderLine 52 = .ok (.iconst (-1), 1) := by decide +kernel
theorem dX4_orderLine_53 : decode cX4_orderLine 53 = .ok (.invokevirtual 163, 3) := by decide +kernel
theorem dX4_orderLine_56 : decode cX4_orderLine 56 = .ok (.ifCond .eq 99, 3) := by decide +kernel
theorem dX4_orderLine_59 : decode cX4_orderLine 59 = .ok (.aload_n 0, 1) := by decide +kernel
theorem dX4_orderLine_60 : decode cX4_orderLine 60 = .ok (.ldc 242, 2) := by decide +kernel
theorem dX4_orderLine_62 : decode cX4_orderLine 62 = .ok (.invokevirtual 114, 3) := by decide +kernel
theorem dX4_orderLine_65 : decode cX4_orderLine 65 = .ok (.ifCond .eq 90, 3) := by decide +kernel
theorem dX4_orderLine_68 : decode cX4_orderLine 68 = .ok (.aload_n 0, 1) := by decide +kernel
theorem dX4_orderLine_69 : decode cX4_orderLine 69 = .ok (.aload_n 1, 1) := by decide +kernel
theorem dX4_orderLine_70 : decode cX4_orderLine 70 = .ok (.iconst 0, 1) := by decide +kernel
theorem dX4_orderLine_71 : decode cX4_orderLine 71 = .ok (.invokevirtual 244, 3) := by decide +kernel
theorem dX4_orderLine_74 : decode cX4_orderLine 74 = .ok (.ifCond .eq 81, 3) := by decide +kernel
theorem dX4_orderLine_77 : decode cX4_orderLine 77 = .ok (.aload_n 0, 1) := by decide +kernel
theorem dX4_orderLine_78 : decode cX4_orderLine 78 = .ok (.ldc 248, 2) := by decide +kernel
theorem dX4_orderLine_80 : decode cX4_orderLine 80 = .ok (.iconst 0, 1) := by decide +kernel
theorem dX4_orderLine_81 : decode cX4_orderLine 81 = .ok (.aload_n 0, 1) := by decide +kernel
theorem dX4_orderLine_82 : decode cX4_orderLine 82 = .ok (.getfield 17, 3) := by decide +kernel
theorem dX4_orderLine_85 : decode cX4_orderLine 85 = .ok (.getfield 60, 3) := by decide +kernel
theorem dX4_orderLine_88 : decode cX4_orderLine 88 = .ok (.iconst 1, 1) := by decide +kernel
theorem dX4_orderLine_89 : decode cX4_orderLine 89 = .ok (.isub, 1) := by decide +kernel
theorem dX4_orderLine_90 : decode cX4_orderLine 90 = .ok (.aload_n 1, 1) := by decide +kernel
theorem dX4_orderLine_91 : decode cX4_orderLine 91 = .ok (.iconst 1, 1) := by decide +kernel
theorem dX4_orderLine_92 : decode cX4_orderLine 92 = .ok (.invokevirtual 169, 3) := by decide +kernel
theorem dX4_orderLine_95 : decode cX4_orderLine 95 = .ok (.ifCond .eq 60, 3) := by decide +kernel
theorem dX4_orderLine_98 : decode cX4_orderLine 98 = .ok (.aload_n 0, 1) := by decide +kernel
theorem dX4_orderLine_99 : decode cX4_orderLine 99 = .ok (.aload_n 1, 1) := by decide +kernel
theorem dX4_orderLine_100 : decode cX4_orderLine 100 = .ok (.iconst 2, 1) := by decide +kernel
theorem dX4_orderLine_101 : decode cX4_orderLine 101 = .ok (.invokevirtual 250, 3) := by decide +kernel
theorem dX4_orderLine_104 : decode cX4_orderLine 104 = .ok (.ifCond .eq 51, 3) := by decide +kernel
theorem dX4_orderLine_107 : decode cX4_orderLine 107 = .ok (.aload_n 0, 1) := by decide +kernel
theorem dX4_orderLine_108 : decode cX4_orderLine 108 = .ok (.ldc 253, 2) := by decide +kernel
theorem dX4_orderLine_110 : decode cX4_orderLine 110 = .ok (.iconst 0, 1) := by decide +kernel
theorem dX4_orderLine_111 : decode cX4_orderLine 111 = .ok (.aload_n 0, 1) := by decide +kernel
theorem dX4_orderLine_112 : decode cX4_orderLine 112 = .ok (.getfield 17, 3) := by decide +kernel
theorem dX4_orderLine_115 : decode cX4_orderLine 115 = .ok (.getfield 60, 3) := by decide +kernel
theorem dX4_orderLine_118 : decode cX4_orderLine 118 = .ok (.iconst 1, 1) := by decide +kernel
theorem dX4_orderLine_119 : decode cX4_orderLine 119 = .ok (.isub, 1) := by decide +kernel
theorem dX4_orderLine_120 : decode cX4_orderLine 120 = .ok (.aload_n 1, 1) := by decide +kernel
theorem dX4_orderLine_121 : decode cX4_orderLine 121 = .ok (.iconst 3, 1) := by decide +kernel
theorem dX4_orderLine_122 : decode cX4_orderLine 122 = .ok (.invokevirtual 169, 3) := by decide +kernel
theorem dX4_orderLine_125 : decode cX4_orderLine 125 = .ok (.ifCond .eq 30, 3) := by decide +kernel
theorem dX4_orderLine_128 : decode cX4_orderLine 128 = .ok (.aload_n 0, 1) := by decide +kernel
theorem dX4_orderLine_129 : decode cX4_orderLine 129 = .ok (.aload_n 1, 1) := by decide +kernel
theorem dX4_orderLine_130 : decode cX4_orderLine 130 = .ok (.iconst 4, 1) := by decide +kernel
theorem dX4_orderLine_131 : decode cX4_orderLine 131 = .ok (.invokevirtual 250, 3) := by decide +kernel
theorem dX4_orderLine_134 : decode cX4_orderLine 134 = .ok (.ifCond .eq 21, 3) := by decide +kernel
theorem dX4_orderLine_137 : decode cX4_orderLine 137 = .ok (.aload_n 0, 1) := by decide +kernel
theorem dX4_orderLine_138 : decode cX4_orderLine 138 = .ok (.ldc 255, 2) := by decide +kernel
theorem dX4_orderLine_140 : decode cX4_orderLine 140 = .ok (.iconst 0, 1) := by decide +kernel
theorem dX4_orderLine_141 : decode cX4_orderLine 141 = .ok (.bipush 23, 2) := by decide +kernel
theorem dX4_orderLine_143 : decode cX4_orderLine 143 = .ok (.aload_n 1, 1) := by decide +kernel
theorem dX4_orderLine_144 : decode cX4_orderLine 144 = .ok (.iconst 5, 1) := by decide +kernel
theorem dX4_orderLine_145 : decode cX4_orderLine 145 = .ok (.invokevirtual 169, 3) := by decide +kernel
theorem dX4_orderLine_148 : decode cX4_orderLine 148 = .ok (.ifCond .eq 7, 3) := by decide +kernel
theorem dX4_orderLine_151 : decode cX4_orderLine 151 = .ok (.iconst 1, 1) := by decide +kernel
theorem dX4_orderLine_152 : decode cX4_orderLine 152 = .ok (.goto 4, 3) := by decide +kernel
theorem dX4_orderLine_155 : decode cX4_orderLine 155 = .ok (.iconst 0, 1) := by decide +kernel
theorem dX4_orderLine_156 : decode cX4_orderLine 156 = .ok (.ireturn, 1) := by decide +kernel
theorem dX4_put_0 : decode cX4_put 0 = .ok (.iload_n 2, 1) := by decide +kernel
theorem dX4_put_1 : decode cX4_put 1 = .ok (.ifCond .lt 16, 3) := by decide +kernel
theorem dX4_put_4 : decode cX4_put 4 = .ok (.iload_n 2, 1) := by decide +kernel
theorem dX4_put_5 : decode cX4_put 5 = .ok (.aload_n 1, 1) := by decide +kernel
theorem dX4_put_6 : decode cX4_put 6 = .ok (.arraylength, 1) := by decide +kernel
theorem dX4_put_7 : decode cX4_put 7 = .ok (.if_icmp .ge 10, 3) := by decide +kernel
theorem dX4_put_10 : decode cX4_put 10 = .ok (.aload_n 1, 1) := by decide +kernel
theorem dX4_put_11 : decode cX4_put 11 = .ok (.iload_n 2, 1) := by decide +kernel
theorem dX4_put_12 : decode cX4_put 12 = .ok (.aload_n 0, 1) := by decide +kernel
theorem dX4_put_13 : decode cX4_put 13 = .ok (.getfield 111, 3) := by decide +kernel
theorem dX4_put_16 : decode cX4_put 16 = .ok (.iastore, 1) := by decide +kernel
theorem dX4_put_17 : decode cX4_put 17 = .ok (.return_, 1) := by decide +kernel
theorem dX4_read_0 : decode cX4_read 0 = .ok (.aload_n 0, 1) := by decide +kernel
theorem dX4_read_1 : decode cX4_read 1 = .ok (.aload_n 1, 1) := by decide +kernel
theorem dX4_read_2 : decode cX4_read 2 = .ok (.putfield 17, 3) := by decide +kernel
theorem dX4_read_5 : decode cX4_read 5 = .ok (.aload_n 0, 1) := by decide +kernel
theorem dX4_read_6 : decode cX4_read 6 = .ok (.getfield 17, 3) := by decide +kernel
theorem dX4_read_9 : decode cX4_read 9 = .ok (.invokevirtual 31, 3) := by decide +kernel
theorem dX4_read_12 : decode cX4_read 12 = .ok (.aload_n 0, 1) := by decide +kernel
theorem dX4_read_13 : decode cX4_read 13 = .ok (.iload_n 2, 1) := by decide +kernel
theorem dX4_read_14 : decode cX4_read 14 = .ok (.aload_n 0, 1) := by decide +kernel
theorem dX4_read_15 : decode cX4_read 15 = .ok (.getfield 11, 3) := by decide +kernel
theorem dX4_read_18 : decode cX4_read 18 = .ok (.arraylength, 1) := by decide +kernel
theorem dX4_read_19 : decode cX4_read 19 = .ok (.if_icmp .ge 7, 3) := by decide +kernel
theorem dX4_read_22 : decode cX4_read 22 = .ok (.iload_n 2, 1) := by decide +kernel
theorem dX4_read_23 : decode cX4_read 23 = .ok (.goto 8, 3) := by decide +kernel
theorem dX4_read_26 : decode cX4_read 26 = .ok (.aload_n 0, 1) := by decide +kernel
theorem dX4_read_27 : decode cX4_read 27 = .ok (.getfield 11, 3) := by decide +kernel
theorem dX4_read_30 : decode cX4_read 30 = .ok (.arraylength, 1) := by decide +kernel
theorem dX4_read_31 : decode cX4_read 31 = .ok (.putfield 34, 3) := by decide +kernel
theorem dX4_read_34 : decode cX4_read 34 = .ok (.aload_n 0, 1) := by decide +kernel
theorem dX4_read_35 : decode cX4_read 35 = .ok (.iconst 0, 1) := by decide +kernel
theorem dX4_read_36 : decode cX4_read 36 = .ok (.putfield 38, 3) := by decide +kernel
theorem dX4_read_39 : decode cX4_read 39 = .ok (.aload_n 0, 1) := by decide +kernel
theorem dX4_read_40 : decode cX4_read 40 = .ok (.iconst 0, 1) := by decide +kernel
theorem dX4_read_41 : decode cX4_read 41 = .ok (.putfield 41, 3) := by decide +kernel
theorem dX4_read_44 : decode cX4_read 44 = .ok (.aload_n 0, 1) := by decide +kernel
theorem dX4_read_45 : decode cX4_read 45 = .ok (.iconst 0, 1) := by decide +kernel
theorem dX4_read_46 : decode cX4_read 46 = .ok (.putfield 44, 3) := by decide +kernel
theorem dX4_read_49 : decode cX4_read 49 = .ok (.aload_n 0, 1) := by decide +kernel
theorem dX4_read_50 : decode cX4_read 50 = .ok (.iconst 0, 1) := by decide +kernel
theorem dX4_read_51 : decode cX4_read 51 = .ok (.putfield 47, 3) := by decide +kernel
theorem dX4_read_54 : decode cX4_read 54 = .ok (.aload_n 0, 1) := by decide +kernel
theorem dX4_read_55 : decode cX4_read 55 = .ok (.invokevirtual 50, 3) := by decide +kernel
theorem dX4_read_58 : decode cX4_read 58 = .ok (.iconst 0, 1) := by decide +kernel
theorem dX4_read_59 : decode cX4_read 59 = .ok (.istore_n 3, 1) := by decide +kernel
theorem dX4_read_60 : decode cX4_read 60 = .ok (.iload_n 3, 1) := by decide +kernel
theorem dX4_read_61 : decode cX4_read 61 = .ok (.sipush 900, 3) := by decide +kernel
theorem dX4_read_64 : decode cX4_read 64 = .ok (.if_icmp .gt 76, 3) := by decide +kernel
theorem dX4_read_67 : decode cX4_read 67 = .ok (.aload_n 0, 1) := by decide +kernel
theorem dX4_read_68 : decode cX4_read 68 = .ok (.invokevirtual 53, 3) := by decide +kernel
theorem dX4_read_71 : decode cX4_read 71 = .ok (.ifCond .eq 69, 3) := by decide +kernel
theorem dX4_read_74 : decode cX4_read 74 = .ok (.aload_n 0, 1) := by decide +kernel
theorem dX4_read_75 : decode cX4_read 75 = .ok (.getfield 57, 3) := by decide +kernel
theorem dX4_read_78 : decode cX4_read 78 = .ok (.ifCond .ne 29, 3) := by decide +kernel
theorem dX4_read_81 : decode cX4_read 81 = .ok (.aload_n 0, 1) := by decide +kernel
theorem dX4_read_82 : decode cX4_read 82 = .ok (.getfield 17, 3) := by decide +kernel
theorem dX4_read_85 : decode cX4_read 85 = .ok (.getfield 60, 3) := by decide +kernel
theorem dX4_read_88 : decode cX4_read 88 = .ok (.ifCond .ne 14, 3) := by decide +kernel
theorem dX4_read_91 : decode cX4_read 91 = .ok (.aload_n 0, 1) := by decide +kernel
theorem dX4_read_92 : decode cX4_read 92 = .ok (.bipush 6, 2) := by decide +kernel
theorem dX4_read_94 : decode cX4_read 94 = .ok (.aload_n 0, 1) := by decide +kernel
theorem dX4_read_95 : decode cX4_read 95 = .ok (.getfield 63, 3) := by decide +kernel
theorem dX4_read_98 : decode cX4_read 98 = .ok (.invokevirtual 66, 3) := by decide +kernel
theorem dX4_read_101 : decode cX4_read 101 = .ok (.pop, 1) := by decide +kernel
theorem dX4_read_102 : decode cX4_read 102 = .ok (.aload_n 0, 1) := by decide +kernel
theorem dX4_read_103 : decode cX4_read 103 = .ok (.getfield 44, 3) := by decide +kernel
theorem dX4_read_106 : decode cX4_read 106 = .ok (.ireturn, 1) := by decide +kernel
theorem dX4_read_107 : decode cX4_read 107 = .ok (.aload_n 0, 1) := by decide +kernel
theorem dX4_read_108 : decode cX4_read 108 = .ok (.getfield 57, 3) := by decide +kernel
theorem dX4_read_111 : decode cX4_read 111 = .ok (.iconst 3, 1) := by decide +kernel
theorem dX4_read_112 : decode cX4_read 112 = .ok (.if_icmp .eq 18, 3) := by decide +kernel
theorem dX4_read_115 : decode cX4_read 115 = .ok (.aload_n 0, 1) := by decide +kernel
theorem dX4_read_116 : decode cX4_read 116 = .ok (.iconst 1, 1) := by decide +kernel
theorem dX4_read_117 : decode cX4_read 117 = .ok (.aload_n 0, 1) := by decide +kernel
theorem dX4_read_118 : decode cX4_read 118 = .ok (.getfield 63, 3) := by decide +kernel
theorem dX4_read_121 : decode cX4_read 121 = .ok (.invokevirtual 66, 3) := by decide +kernel
theorem dX4_read_124 : decode cX4_read 124 = .ok (.pop, 1) := by decide +kernel
theorem dX4_read_125 : decode cX4_read 125 = .ok (.aload_n 0, 1) := by decide +kernel
theorem dX4_read_126 : decode cX4_read 126 = .ok (.getfield 44, 3) := by decide +kernel
theorem dX4_read_129 : decode cX4_read 129 = .ok (.ireturn, 1) := by decide +kernel
theorem dX4_read_130 : decode cX4_read 130 = .ok (.aload_n 0, 1) := by decide +kernel
theorem dX4_read_131 : decode cX4_read 131 = .ok (.invokevirtual 50, 3) := by decide +kernel
theorem dX4_read_134 : decode cX4_read 134 = .ok (.iinc 3 1, 3) := by decide +kernel
theorem dX4_read_137 : decode cX4_read 137 = .ok (.goto (-77), 3) := by decide +kernel
theorem dX4_read_140 : decode cX4_read 140 = .ok (.aload_n 0, 1) := by decide +kernel
theorem dX4_read_141 : decode cX4_read 141 = .ok (.getfield 44, 3) := by decide +kernel
theorem dX4_read_144 : decode cX4_read 144 = .ok (.ireturn, 1) := by decide +kernel
theorem dX4_readLine_0 : decode cX4_readLine 0 = .ok (.aload_n 0, 1) := by decide +kernel
theorem dX4_readLine_1 : decode cX4_readLine 1 = .ok (.ldc 90, 2) := by decide +kernel
theorem dX4_readLine_3 : decode cX4_readLine 3 = .ok (.invokevirtual 91, 3) := by decide +kernel
theorem dX4_readLine_6 : decode cX4_readLine 6 = .ok (.ifCond .eq 8, 3) := by decide +kernel
theorem dX4_readLine_9 : decode cX4_readLine 9 = .ok (.aload_n 0, 1) := by decide +kernel
theorem dX4_readLine_10 : decode cX4_readLine 10 = .ok (.invokevirtual 133, 3) := by decide +kernel
theorem dX4_readLine_13 : decode cX4_readLine 13 = .ok (.ireturn, 1) := by decide +kernel
theorem dX4_readLine_14 : decode cX4_readLine 14 = .ok (.aload_n 0, 1) := by decide +kernel
theorem dX4_readLine_15 : decode cX4_readLine 15 = .ok (.ldc 95, 2) := by decide +kernel
theorem dX4_readLine_17 : decode cX4_readLine 17 = .ok (.invokevirtual 91, 3) := by decide +kernel
theorem dX4_readLine_20 : decode cX4_readLine 20 = .ok (.ifCond .eq 8, 3) := by decide +kernel
theorem dX4_readLine_23 : decode cX4_readLine 23 = .ok (.aload_n 0, 1) := by decide +kernel
theorem dX4_readLine_24 : decode cX4_readLine 24 = .ok (.invokevirtual 136, 3) := by decide +kernel
theorem dX4_readLine_27 : decode cX4_readLine 27 = .ok (.ireturn, 1) := by decide +kernel
theorem dX4_readLine_28 : decode cX4_readLine 28 = .ok (.aload_n 0, 1) := by decide +kernel
theorem dX4_readLine_29 : decode cX4_readLine 29 = .ok (.ldc 97, 2) := by decide +kernel
theorem dX4_readLine_31 : decode cX4_readLine 31 = .ok (.invokevirtual 91, 3) := by decide +kernel
theorem dX4_readLine_34 : decode cX4_readLine 34 = .ok (.ifCond .eq 8, 3) := by decide +kernel
theorem dX4_readLine_37 : decode cX4_readLine 37 = .ok (.aload_n 0, 1) := by decide +kernel
theorem dX4_readLine_38 : decode cX4_readLine 38 = .ok (.invokevirtual 139, 3) := by decide +kernel
theorem dX4_readLine_41 : decode cX4_readLine 41 = .ok (.ireturn, 1) := by decide +kernel
theorem dX4_readLine_42 : decode cX4_readLine 42 = .ok (.aload_n 0, 1) := by decide +kernel
theorem dX4_readLine_43 : decode cX4_readLine 43 = .ok (.ldc 99, 2) := by decide +kernel
theorem dX4_readLine_45 : decode cX4_readLine 45 = .ok (.invokevirtual 91, 3) := by decide +kernel
theorem dX4_readLine_48 : decode cX4_readLine 48 = .ok (.ifCond .eq 8, 3) := by decide +kernel
theorem dX4_readLine_51 : decode cX4_readLine 51 = .ok (.aload_n 0, 1) := by decide +kernel
theorem dX4_readLine_52 : decode cX4_readLine 52 = .ok (.invokevirtual 142, 3) := by decide +kernel
theorem dX4_readLine_55 : decode cX4_readLine 55 = .ok (.ireturn, 1) := by decide +kernel
theorem dX4_readLine_56 : decode cX4_readLine 56 = .ok (.aload_n 0, 1) := by decide +kernel
theorem dX4_readLine_57 : decode cX4_readLine 57 = .ok (.ldc 101, 2) := by decide +kernel
theorem dX4_readLine_59 : decode cX4_readLine 59 = .ok (.invokevirtual 91, 3) := by decide +kernel
theorem dX4_readLine_62 : decode cX4_readLine 62 = .ok (.ifCond .eq 8, 3) := by decide +kernel
theorem dX4_readLine_65 : decode cX4_readLine 65 = .ok (.aload_n 0, 1) := by decide +kernel
theorem dX4_readLine_66 : decode cX4_readLine 66 = .ok (.invokevirtual 145, 3) := by decide +kernel
theorem dX4_readLine_69 : decode cX4_readLine 69 = .ok (.ireturn, 1) := by decide +kernel
theorem dX4_readLine_70 : decode cX4_readLine 70 = .ok (.aload_n 0, 1) := by decide +kernel
theorem dX4_readLine_71 : decode cX4_readLine 71 = .ok (.ldc 103, 2) := by decide +kernel
theorem dX4_readLine_73 : decode cX4_readLine 73 = .ok (.invokevirtual 91, 3) := by decide +kernel
theorem dX4_readLine_76 : decode cX4_readLine 76 = .ok (.ifCond .eq 10, 3) := by decide +kernel
theorem dX4_readLine_79 : decode cX4_readLine 79 = .ok (.aload_n 0, 1) := by decide +kernel
theorem dX4_readLine_80 : decode cX4_readLine 80 = .ok (.invokevirtual 148, 3) := by decide +kernel
theorem dX4_readLine_83 : decode cX4_readLine 83 = .ok (.goto 12, 3) := by decide +kernel
theorem dX4_readLine_86 : decode cX4_readLine 86 = .ok (.aload_n 0, 1) := by decide +kernel
theorem dX4_readLine_87 : decode cX4_readLine 87 = .ok (.iconst 1, 1) := by decide +kernel
theorem dX4_readLine_88 : decode cX4_readLine 88 = .ok (.aload_n 0, 1) := by decide +kernel
theorem dX4_readLine_89 : decode cX4_readLine 89 = .ok (.getfield 63, 3) := by decide +kernel
theorem dX4_readLine_92 : decode cX4_readLine 92 = .ok (.invokevirtual 66, 3) := by decide +kernel
theorem dX4_readLine_95 : decode cX4_readLine 95 = .ok (.ireturn, 1) := by decide +kernel
theorem dX4_ringsLine_0 : decode cX4_ringsLine 0 = .ok (.aload_n 0, 1) := by decide +kernel
theorem dX4_ringsLine_1 : decode cX4_ringsLine 1 = .ok (.getfield 17, 3) := by decide +kernel
theorem dX4_ringsLine_4 : decode cX4_ringsLine 4 = .ok (.getfield 60, 3) := by decide +kernel
theorem dX4_ringsLine_7 : decode cX4_ringsLine 7 = .ok (.ifCond .le 13, 3) := by decide +kernel
theorem dX4_ringsLine_10 : decode cX4_ringsLine 10 = .ok (.aload_n 0, 1) := by decide +kernel
theorem dX4_ringsLine_11 : decode cX4_ringsLine 11 = .ok (.iconst 3, 1) := by decide +kernel
theorem dX4_ringsLine_12 : decode cX4_ringsLine 12 = .ok (.aload_n 0, 1) := by decide +kernel
theorem dX4_ringsLine_13 : decode cX4_ringsLine 13 = .ok (.getfield 63, 3) := by decide +kernel
theorem dX4_ringsLine_16 : decode cX4_ringsLine 16 = .ok (.invokevirtual 66, 3) := by decide +kernel
theorem dX4_ringsLine_19 : decode cX4_ringsLine 19 = .ok (.ireturn, 1) := by decide +kernel
theorem dX4_ringsLine_20 : decode cX4_ringsLine 20 = .ok (.bipush 99, 2) := by decide +kernel
theorem dX4_ringsLine_22 : decode cX4_ringsLine 22 = .ok (.istore_n 1, 1) := by decide +kernel
theorem dX4_ringsLine_23 : decode cX4_ringsLine 23 = .ok (.iconst 0, 1) := by decide +kernel
theorem dX4_ringsLine_24 : decode cX4_ringsLine 24 = .ok (.istore_n 2, 1) := by decide +kernel
theorem dX4_ringsLine_25 : decode cX4_ringsLine 25 = .ok (.aload_n 0, 1) := by decide +kernel
theorem dX4_ringsLine_26 : decode cX4_ringsLine 26 = .ok (.invokevirtual 50, 3) := by decide +kernel
theorem dX4_ringsLine_29 : decode cX4_ringsLine 29 = .ok (.iload_n 2, 1) := by decide +kernel
theorem dX4_ringsLine_30 : decode cX4_ringsLine 30 = .ok (.bipush 6, 2) := by decide +kernel
theorem dX4_ringsLine_32 : decode cX4_ringsLine 32 = .ok (.if_icmp .lt 25, 3) := by decide +kernel
theorem dX4_ringsLine_35 : decode cX4_ringsLine 35 = .ok (.aload_n 0, 1) := by decide +kernel
theorem dX4_ringsLine_36 : decode cX4_ringsLine 36 = .ok (.aload_n 0, 1) := by decide +kernel
theorem dX4_ringsLine_37 : decode cX4_ringsLine 37 = .ok (.getfield 57, 3) := by decide +kernel
theorem dX4_ringsLine_40 : decode cX4_ringsLine 40 = .ok (.iconst 2, 1) := by decide +kernel
theorem dX4_ringsLine_41 : decode cX4_ringsLine 41 = .ok (.if_icmp .ne 7, 3) := by decide +kernel
theorem dX4_ringsLine_44 : decode cX4_ringsLine 44 = .ok (.iconst 5, 1) := by decide +kernel
theorem dX4_ringsLine_45 : decode cX4_ringsLine 45 = .ok (.goto 4, 3) := by decide +kernel
theorem dX4_ringsLine_48 : decode cX4_ringsLine 48 = .ok (.iconst 1, 1) := by decide +kernel
theorem dX4_ringsLine_49 : decode cX4_ringsLine 49 = .ok (.aload_n 0, 1) := by decide +kernel
theorem dX4_ringsLine_50 : decode cX4_ringsLine 50 = .ok (.getfield 63, 3) := by decide +kernel
theorem dX4_ringsLine_53 : decode cX4_ringsLine 53 = .ok (.invokevirtual 66, 3) := by decide +kernel
theorem dX4_ringsLine_56 : decode cX4_ringsLine 56 = .ok (.ireturn, 1) := by decide +kernel
theorem dX4_ringsLine_57 : decode cX4_ringsLine 57 = .ok (.aload_n 0, 1) := by decide +kernel
theorem dX4_ringsLine_58 : decode cX4_ringsLine 58 = .ok (.iconst 1, 1) := by decide +kernel
theorem dX4_ringsLine_59 : decode cX4_ringsLine 59 = .ok (.iload_n 1, 1) := by decide +kernel
theorem dX4_ringsLine_60 : decode cX4_ringsLine 60 = .ok (.invokevirtual 117, 3) := by decide +kernel
theorem dX4_ringsLine_63 : decode cX4_ringsLine 63 = .ok (.ifCond .ne 5, 3) := by decide +kernel
theorem dX4_ringsLine_66 : decode cX4_ringsLine 66 = .ok (.iconst 0, 1) := by decide +kernel
theorem dX4_ringsLine_67 : decode cX4_ringsLine 67 = .ok (.ireturn, 1) := by decide +kernel
theorem dX4_ringsLine_68 : decode cX4_ringsLine 68 = .ok (.aload_n 0, 1) := by decide +kernel
theorem dX4_ringsLine_69 : decode cX4_ringsLine 69 = .ok (.getfield 111, 3) := by decide +kernel
theorem dX4_ringsLine_72 : decode cX4_ringsLine 72 = .ok (.istore_n 1, 1) := by decide +kernel
theorem dX4_ringsLine_73 : decode cX4_ringsLine 73 = .ok (.aload_n 0, 1) := by decide +kernel
theorem dX4_ringsLine_74 : decode cX4_ringsLine 74 = .ok (.getfield 17, 3) := by decide +kernel
theorem dX4_ringsLine_77 : decode cX4_ringsLine 77 = .ok (.getfield 151, 3) := by decide +kernel
theorem dX4_ringsLine_80 : decode cX4_ringsLine 80 = .ok (.iload_n 2, 1) := by decide +kernel
theorem dX4_ringsLine_81 : decode cX4_ringsLine 81 = .ok (.aload_n 0, 1) := by decide +kernel
theorem dX4_ringsLine_82 : decode cX4_ringsLine 82 = .ok (.getfield 111, 3) := by decide +kernel
theorem dX4_ringsLine_85 : decode cX4_ringsLine 85 = .ok (.iastore, 1) := by decide +kernel
theorem dX4_ringsLine_86 : decode cX4_ringsLine 86 = .ok (.iinc 2 1, 3) := by decide +kernel
theorem dX4_ringsLine_89 : decode cX4_ringsLine 89 = .ok (.aload_n 0, 1) := by decide +kernel
theorem dX4_ringsLine_90 : decode cX4_ringsLine 90 = .ok (.getfield 57, 3) := by decide +kernel
theorem dX4_ringsLine_93 : decode cX4_ringsLine 93 = .ok (.iconst 4, 1) := by decide +kernel
theorem dX4_ringsLine_94 : decode cX4_ringsLine 94 = .ok (.if_icmp .ne 9, 3) := by decide +kernel
theorem dX4_ringsLine_97 : decode cX4_ringsLine 97 = .ok (.iload_n 2, 1) := by decide +kernel
theorem dX4_ringsLine_98 : decode cX4_ringsLine 98 = .ok (.bipush 6, 2) := by decide +kernel
theorem dX4_ringsLine_100 : decode cX4_ringsLine 100 = .ok (.if_icmp .le (-75), 3) := by decide +kernel
theorem dX4_ringsLine_103 : decode cX4_ringsLine 103 = .ok (.iload_n 2, 1) := by decide +kernel
theorem dX4_ringsLine_104 : decode cX4_ringsLine 104 = .ok (.iconst 2, 1) := by decide +kernel
theorem dX4_ringsLine_105 : decode cX4_ringsLine 105 = .ok (.if_icmp .ge 13, 3) := by decide +kernel
theorem dX4_ringsLine_108 : decode cX4_ringsLine 108 = .ok (.aload_n 0, 1) := by decide +kernel
theorem dX4_ringsLine_109 : decode cX4_ringsLine 109 = .ok (.iconst 1, 1) := by decide +kernel
theorem dX4_ringsLine_110 : decode cX4_ringsLine 110 = .ok (.aload_n 0, 1) := by decide +kernel
theorem dX4_ringsLine_111 : decode cX4_ringsLine 111 = .ok (.getfield 63, 3) := by decide +kernel
theorem dX4_ringsLine_114 : decode cX4_ringsLine 114 = .ok (.invokevirtual 66, 3) := by decide +kernel
theorem dX4_ringsLine_117 : decode cX4_ringsLine 117 = .ok (.ireturn, 1) := by decide +kernel
theorem dX4_ringsLine_118 : decode cX4_ringsLine 118 = .ok (.aload_n 0, 1) := by decide +kernel
theorem dX4_ringsLine_119 : decode cX4_ringsLine 119 = .ok (.getfield 17, 3) := by decide +kernel
theorem dX4_ringsLine_122 : decode cX4_ringsLine 122 = .ok (.iload_n 2, 1) := by decide +kernel
theorem dX4_ringsLine_123 : decode cX4_ringsLine 123 = .ok (.putfield 60, 3) := by decide +kernel
theorem dX4_ringsLine_126 : decode cX4_ringsLine 126 = .ok (.iconst 1, 1) := by decide +kernel
theorem dX4_ringsLine_127 : decode cX4_ringsLine 127 = .ok (.ireturn, 1) := by decide +kernel
theorem dX4_shape_0 : decode cX4_shape 0 = .ok (.aload_n 1, 1) := by decide +kernel
theorem dX4_shape_1 : decode cX4_shape 1 = .ok (.aload_n 0, 1) := by decide +kernel
theorem dX4_shape_2 : decode cX4_shape 2 = .ok (.getfield 28, 3) := by decide +kernel
theorem dX4_shape_5 : decode cX4_shape 5 = .ok (.iconst 0, 1) := by decide +kernel
theorem dX4_shape_6 : decode cX4_shape 6 = .ok (.iaload, 1) := by decide +kernel
theorem dX4_shape_7 : decode cX4_shape 7 = .ok (.iload_n 2, 1) := by decide +kernel
theorem dX4_shape_8 : decode cX4_shape 8 = .ok (.invokestatic 216, 3) := by decide +kernel
theorem dX4_shape_11 : decode cX4_shape 11 = .ok (.aload_n 0, 1) := by decide +kernel
theorem dX4_shape_12 : decode cX4_shape 12 = .ok (.getfield 28, 3) := by decide +kernel
theorem dX4_shape_15 : decode cX4_shape 15 = .ok (.iconst 1, 1) := by decide +kernel
theorem dX4_shape_16 : decode cX4_shape 16 = .ok (.iaload, 1) := by decide +kernel
theorem dX4_shape_17 : decode cX4_shape 17 = .ok (.aload_n 0, 1) := by decide +kernel
theorem dX4_shape_18 : decode cX4_shape 18 = .ok (.getfield 28, 3) := by decide +kernel
theorem dX4_shape_21 : decode cX4_shape 21 = .ok (.iconst 2, 1) := by decide +kernel
theorem dX4_shape_22 : decode cX4_shape 22 = .ok (.iaload, 1) := by decide +kernel
theorem dX4_shape_23 : decode cX4_shape 23 = .ok (.invokevirtual 220, 3) := by decide +kernel
theorem dX4_shape_26 : decode cX4_shape 26 = .ok (.aload_n 1, 1) := by decide +kernel
theorem dX4_shape_27 : decode cX4_shape 27 = .ok (.aload_n 0, 1) := by decide +kernel
theorem dX4_shape_28 : decode cX4_shape 28 = .ok (.getfield 28, 3) := by decide +kernel
theorem dX4_shape_31 : decode cX4_shape 31 = .ok (.iconst 3, 1) := by decide +kernel
theorem dX4_shape_32 : decode cX4_shape 32 = .ok (.iaload, 1) := by decide +kernel
theorem dX4_shape_33 : decode cX4_shape 33 = .ok (.iload_n 2, 1) := by decide +kernel
theorem dX4_shape_34 : decode cX4_shape 34 = .ok (.invokestatic 216, 3) := by decide +kernel
theorem dX4_shape_37 : decode cX4_shape 37 = .ok (.putfield 225, 3) := by decide +kernel
theorem dX4_shape_40 : decode cX4_shape 40 = .ok (.aload_n 1, 1) := by decide +kernel
theorem dX4_shape_41 : decode cX4_shape 41 = .ok (.iload_n 2, 1) := by decide +kernel
theorem dX4_shape_42 : decode cX4_shape 42 = .ok (.putfield 228, 3) := by decide +kernel
theorem dX4_shape_45 : decode cX4_shape 45 = .ok (.aload_n 1, 1) := by decide +kernel
theorem dX4_shape_46 : decode cX4_shape 46 = .ok (.iload_n 3, 1) := by decide +kernel
theorem dX4_shape_47 : decode cX4_shape 47 = .ok (.putfield 231, 3) := by decide +kernel
theorem dX4_shape_50 : decode cX4_shape 50 = .ok (.aload_n 1, 1) := by decide +kernel
theorem dX4_shape_51 : decode cX4_shape 51 = .ok (.iload 4, 2) := by decide +kernel
theorem dX4_shape_53 : decode cX4_shape 53 = .ok (.putfield 234, 3) := by decide +kernel
theorem dX4_shape_56 : decode cX4_shape 56 = .ok (.return_, 1) := by decide +kernel
theorem dX4_step_0 : decode cX4_step 0 = .ok (.aload_n 0, 1) := by decide +kernel
theorem dX4_step_1 : decode cX4_step 1 = .ok (.aload_n 0, 1) := by decide +kernel
theorem dX4_step_2 : decode cX4_step 2 = .ok (.getfield 38, 3) := by decide +kernel
theorem dX4_step_5 : decode cX4_step 5 = .ok (.putfield 63, 3) := by decide +kernel
theorem dX4_step_8 : decode cX4_step 8 = .ok (.aload_n 0, 1) := by decide +kernel
theorem dX4_step_9 : decode cX4_step 9 = .ok (.getfield 63, 3) := by decide +kernel
theorem dX4_step_12 : decode cX4_step 12 = .ok (.aload_n 0, 1) := by decide +kernel
theorem dX4_step_13 : decode cX4_step 13 = .ok (.getfield 34, 3) := by decide +kernel
theorem dX4_step_16 : decode cX4_step 16 = .ok (.if_icmp .ge 30, 3) := by decide +kernel
theorem dX4_step_19 : decode cX4_step 19 = .ok (.aload_n 0, 1) := by decide +kernel
theorem dX4_step_20 : decode cX4_step 20 = .ok (.getfield 11, 3) := by decide +kernel
theorem dX4_step_23 : decode cX4_step 23 = .ok (.aload_n 0, 1) := by decide +kernel
theorem dX4_step_24 : decode cX4_step 24 = .ok (.getfield 63, 3) := by decide +kernel
theorem dX4_step_27 : decode cX4_step 27 = .ok (.iaload, 1) := by decide +kernel
theorem dX4_step_28 : decode cX4_step 28 = .ok (.bipush 32, 2) := by decide +kernel
theorem dX4_step_30 : decode cX4_step 30 = .ok (.if_icmp .ne 16, 3) := by decide +kernel
theorem dX4_step_33 : decode cX4_step 33 = .ok (.aload_n 0, 1) := by decide +kernel
theorem dX4_step_34 : decode cX4_step 34 = .ok (.dup, 1) := by decide +kernel
theorem dX4_step_35 : decode cX4_step 35 = .ok (.getfield 63, 3) := by decide +kernel
theorem dX4_step_38 : decode cX4_step 38 = .ok (.iconst 1, 1) := by decide +kernel
theorem dX4_step_39 : decode cX4_step 39 = .ok (.iadd, 1) := by decide +kernel
theorem dX4_step_40 : decode cX4_step 40 = .ok (.putfield 63, 3) := by decide +kernel
theorem dX4_step_43 : decode cX4_step 43 = .ok (.goto (-35), 3) := by decide +kernel
theorem dX4_step_46 : decode cX4_step 46 = .ok (.aload_n 0, 1) := by decide +kernel
theorem dX4_step_47 : decode cX4_step 47 = .ok (.aload_n 0, 1) := by decide +kernel
theorem dX4_step_48 : decode cX4_step 48 = .ok (.getfield 63, 3) := by decide +kernel
theorem dX4_step_51 : decode cX4_step 51 = .ok (.putfield 38, 3) := by decide +kernel
theorem dX4_step_54 : decode cX4_step 54 = .ok (.aload_n 0, 1) := by decide +kernel
theorem dX4_step_55 : decode cX4_step 55 = .ok (.lconst 0, 1) := by decide +kernel
theorem dX4_step_56 : decode cX4_step 56 = .ok (.putfield 70, 3) := by decide +kernel
theorem dX4_step_59 : decode cX4_step 59 = .ok (.aload_n 0, 1) := by decide +kernel
theorem dX4_step_60 : decode cX4_step 60 = .ok (.getfield 38, 3) := by decide +kernel
theorem dX4_step_63 : decode cX4_step 63 = .ok (.aload_n 0, 1) := by decide +kernel
theorem dX4_step_64 : decode cX4_step 64 = .ok (.getfield 34, 3) := by decide +kernel
theorem dX4_step_67 : decode cX4_step 67 = .ok (.if_icmp .ge 73, 3) := by decide +kernel
theorem dX4_step_70 : decode cX4_step 70 = .ok (.aload_n 0, 1) := by decide +kernel
theorem dX4_step_71 : decode cX4_step 71 = .ok (.getfield 11, 3) := by decide +kernel
theorem dX4_step_74 : decode cX4_step 74 = .ok (.aload_n 0, 1) := by decide +kernel
theorem dX4_step_75 : decode cX4_step 75 = .ok (.getfield 38, 3) := by decide +kernel
theorem dX4_step_78 : decode cX4_step 78 = .ok (.iaload, 1) := by decide +kernel
theorem dX4_step_79 : decode cX4_step 79 = .ok (.bipush 97, 2) := by decide +kernel
theorem dX4_step_81 : decode cX4_step 81 = .ok (.if_icmp .lt 59, 3) := by decide +kernel
theorem dX4_step_84 : decode cX4_step 84 = .ok (.aload_n 0, 1) := by decide +kernel
theorem dX4_step_85 : decode cX4_step 85 = .ok (.getfield 11, 3) := by decide +kernel
theorem dX4_step_88 : decode cX4_step 88 = .ok (.aload_n 0, 1) := by decide +kernel
theorem dX4_step_89 : decode cX4_step 89 = .ok (.getfield 38, 3) := by decide +kernel
theorem dX4_step_92 : decode cX4_step 92 = .ok (.iaload, 1) := by decide +kernel
theorem dX4_step_93 : decode cX4_step 93 = .ok (.bipush 122, 2) := by decide +kernel
theorem dX4_step_95 : decode cX4_step 95 = .ok (.if_icmp .gt 45, 3) := by decide +kernel
theorem dX4_step_98 : decode cX4_step 98 = .ok (.aload_n 0, 1) := by decide +kernel
theorem dX4_step_99 : decode cX4_step 99 = .ok (.aload_n 0, 1) := by decide +kernel
theorem dX4_step_100 : decode cX4_step 100 = .ok (.getfield 70, 3) := by decide +kernel
theorem dX4_step_103 : decode cX4_step 103 = .ok (.ldc2_w 74, 3) := by decide +kernel
theorem dX4_step_106 : decode cX4_step 106 = .ok (.lmul, 1) := by decide +kernel
theorem dX4_step_107 : decode cX4_step 107 = .ok (.aload_n 0, 1) := by decide +kernel
theorem dX4_step_108 : decode cX4_step 108 = .ok (.getfield 11, 3) := by decide +kernel
theorem dX4_step_111 : decode cX4_step 111 = .ok (.aload_n 0, 1) := by decide +kernel
theorem dX4_step_112 : decode cX4_step 112 = .ok (.getfield 38, 3) := by decide +kernel
theorem dX4_step_115 : decode cX4_step 115 = .ok (.iaload, 1) := by decide +kernel
theorem dX4_step_116 : decode cX4_step 116 = .ok (.i2l, 1) := by decide +kernel
theorem dX4_step_117 : decode cX4_step 117 = .ok (.ladd, 1) := by decide +kernel
theorem dX4_step_118 : decode cX4_step 118 = .ok (.ldc2_w 76, 3) := by decide +kernel
theorem dX4_step_121 : decode cX4_step 121 = .ok (.lsub, 1) := by decide +kernel
theorem dX4_step_122 : decode cX4_step 122 = .ok (.lconst 1, 1) := by decide +kernel
theorem dX4_step_123 : decode cX4_step 123 = .ok (.ladd, 1) := by decide +kernel
theorem dX4_step_124 : decode cX4_step 124 = .ok (.putfield 70, 3) := by decide +kernel
theorem dX4_step_127 : decode cX4_step 127 = .ok (.aload_n 0, 1) := by decide +kernel
theorem dX4_step_128 : decode cX4_step 128 = .ok (.dup, 1) := by decide +kernel
theorem dX4_step_129 : decode cX4_step 129 = .ok (.getfield 38, 3) := by decide +kernel
theorem dX4_step_132 : decode cX4_step 132 = .ok (.iconst 1, 1) := by decide +kernel
theorem dX4_step_133 : decode cX4_step 133 = .ok (.iadd, 1) := by decide +kernel
theorem dX4_step_134 : decode cX4_step 134 = .ok (.putfield 38, 3) := by decide +kernel
theorem dX4_step_137 : decode cX4_step 137 = .ok (.goto (-78), 3) := by decide +kernel
theorem dX4_step_140 : decode cX4_step 140 = .ok (.aload_n 0, 1) := by decide +kernel
theorem dX4_step_141 : decode cX4_step 141 = .ok (.getfield 38, 3) := by decide +kernel
theorem dX4_step_144 : decode cX4_step 144 = .ok (.aload_n 0, 1) := by decide +kernel
theorem dX4_step_145 : decode cX4_step 145 = .ok (.getfield 63, 3) := by decide +kernel
theorem dX4_step_148 : decode cX4_step 148 = .ok (.if_icmp .le 27, 3) := by decide +kernel
theorem dX4_step_151 : decode cX4_step 151 = .ok (.aload_n 0, 1) := by decide +kernel
theorem dX4_step_152 : decode cX4_step 152 = .ok (.aload_n 0, 1) := by decide +kernel
theorem dX4_step_153 : decode cX4_step 153 = .ok (.getfield 38, 3) := by decide +kernel
theorem dX4_step_156 : decode cX4_step 156 = .ok (.aload_n 0, 1) := by decide +kernel
theorem dX4_step_157 : decode cX4_step 157 = .ok (.getfield 63, 3) := by decide +kernel
theorem dX4_step_160 : decode cX4_step 160 = .ok (.isub, 1) := by decide +kernel
theorem dX4_step_161 : decode cX4_step 161 = .ok (.bipush 8, 2) := by decide +kernel
theorem dX4_step_163 : decode cX4_step 163 = .ok (.if_icmp .gt 7, 3) := by decide +kernel
theorem dX4_step_166 : decode cX4_step 166 = .ok (.iconst 1, 1) := by decide +kernel
theorem dX4_step_167 : decode cX4_step 167 = .ok (.goto 4, 3) := by decide +kernel
theorem dX4_step_170 : decode cX4_step 170 = .ok (.iconst 5, 1) := by decide +kernel
theorem dX4_step_171 : decode cX4_step 171 = .ok (.putfield 57, 3) := by decide +kernel
theorem dX4_step_174 : decode cX4_step 174 = .ok (.return_, 1) := by decide +kernel
theorem dX4_step_175 : decode cX4_step 175 = .ok (.aload_n 0, 1) := by decide +kernel
theorem dX4_step_176 : decode cX4_step 176 = .ok (.iconst 0, 1) := by decide +kernel
theorem dX4_step_177 : decode cX4_step 177 = .ok (.putfield 78, 3) := by decide +kernel
theorem dX4_step_180 : decode cX4_step 180 = .ok (.aload_n 0, 1) := by decide +kernel
theorem dX4_step_181 : decode cX4_step 181 = .ok (.getfield 38, 3) := by decide +kernel
theorem dX4_step_184 : decode cX4_step 184 = .ok (.aload_n 0, 1) := by decide +kernel
theorem dX4_step_185 : decode cX4_step 185 = .ok (.getfield 34, 3) := by decide +kernel
theorem dX4_step_188 : decode cX4_step 188 = .ok (.if_icmp .ge 68, 3) := by decide +kernel
theorem dX4_step_191 : decode cX4_step 191 = .ok (.aload_n 0, 1) := by decide +kernel
theorem dX4_step_192 : decode cX4_step 192 = .ok (.getfield 11, 3) := by decide +kernel
theorem dX4_step_195 : decode cX4_step 195 = .ok (.aload_n 0, 1) := by decide +kernel
theorem dX4_step_196 : decode cX4_step 196 = .ok (.getfield 38, 3) := by decide +kernel
theorem dX4_step_199 : decode cX4_step 199 = .ok (.iaload, 1) := by decide +kernel
theorem dX4_step_200 : decode cX4_step 200 = .ok (.bipush 48, 2) := by decide +kernel
theorem dX4_step_202 : decode cX4_step 202 = .ok (.if_icmp .lt 54, 3) := by decide +kernel
theorem dX4_step_205 : decode cX4_step 205 = .ok (.aload_n 0, 1) := by decide +kernel
theorem dX4_step_206 : decode cX4_step 206 = .ok (.getfield 11, 3) := by decide +kernel
theorem dX4_step_209 : decode cX4_step 209 = .ok (.aload_n 0, 1) := by decide +kernel
theorem dX4_step_210 : decode cX4_step 210 = .ok (.getfield 38, 3) := by decide +kernel
theorem dX4_step_213 : decode cX4_step 213 = .ok (.iaload, 1) := by decide +kernel
theorem dX4_step_214 : decode cX4_step 214 = .ok (.bipush 57, 2) := by decide +kernel
theorem dX4_step_216 : decode cX4_step 216 = .ok (.if_icmp .gt 40, 3) := by decide +kernel
theorem dX4_step_219 : decode cX4_step 219 = .ok (.aload_n 0, 1) := by decide +kernel
theorem dX4_step_220 : decode cX4_step 220 = .ok (.aload_n 0, 1) := by decide +kernel
theorem dX4_step_221 : decode cX4_step 221 = .ok (.getfield 78, 3) := by decide +kernel
theorem dX4_step_224 : decode cX4_step 224 = .ok (.bipush 10, 2) := by decide +kernel
theorem dX4_step_226 : decode cX4_step 226 = .ok (.imul, 1) := by decide +kernel
theorem dX4_step_227 : decode cX4_step 227 = .ok (.aload_n 0, 1) := by decide +kernel
theorem dX4_step_228 : decode cX4_step 228 = .ok (.getfield 11, 3) := by decide +kernel
theorem dX4_step_231 : decode cX4_step 231 = .ok (.aload_n 0, 1) := by decide +kernel
theorem dX4_step_232 : decode cX4_step 232 = .ok (.getfield 38, 3) := by decide +kernel
theorem dX4_step_235 : decode cX4_step 235 = .ok (.iaload, 1) := by decide +kernel
theorem dX4_step_236 : decode cX4_step 236 = .ok (.iadd, 1) := by decide +kernel
theorem dX4_step_237 : decode cX4_step 237 = .ok (.bipush 48, 2) := by decide +kernel
theorem dX4_step_239 : decode cX4_step 239 = .ok (.isub, 1) := by decide +kernel
theorem dX4_step_240 : decode cX4_step 240 = .ok (.putfield 78, 3) := by decide +kernel
theorem dX4_step_243 : decode cX4_step 243 = .ok (.aload_n 0, 1) := by decide +kernel
theorem dX4_step_244 : decode cX4_step 244 = .ok (.dup, 1) := by decide +kernel
theorem dX4_step_245 : decode cX4_step 245 = .ok (.getfield 38, 3) := by decide +kernel
theorem dX4_step_248 : decode cX4_step 248 = .ok (.iconst 1, 1) := by decide +kernel
theorem dX4_step_249 : decode cX4_step 249 = .ok (.iadd, 1) := by decide +kernel
theorem dX4_step_250 : decode cX4_step 250 = .ok (.putfield 38, 3) := by decide +kernel
theorem dX4_step_253 : decode cX4_step 253 = .ok (.goto (-73), 3) := by decide +kernel
theorem dX4_step_256 : decode cX4_step 256 = .ok (.aload_n 0, 1) := by decide +kernel
theorem dX4_step_257 : decode cX4_step 257 = .ok (.getfield 38, 3) := by decide +kernel
theorem dX4_step_260 : decode cX4_step 260 = .ok (.aload_n 0, 1) := by decide +kernel
theorem dX4_step_261 : decode cX4_step 261 = .ok (.getfield 63, 3) := by decide +kernel
theorem dX4_step_264 : decode cX4_step 264 = .ok (.if_icmp .le 26, 3) := by decide +kernel
theorem dX4_step_267 : decode cX4_step 267 = .ok (.aload_n 0, 1) := by decide +kernel
theorem dX4_step_268 : decode cX4_step 268 = .ok (.aload_n 0, 1) := by decide +kernel
theorem dX4_step_269 : decode cX4_step 269 = .ok (.getfield 38, 3) := by decide +kernel
theorem dX4_step_272 : decode cX4_step 272 = .ok (.aload_n 0, 1) := by decide +kernel
theorem dX4_step_273 : decode cX4_step 273 = .ok (.getfield 63, 3) := by decide +kernel
theorem dX4_step_276 : decode cX4_step 276 = .ok (.isub, 1) := by decide +kernel
theorem dX4_step_277 : decode cX4_step 277 = .ok (.iconst 3, 1) := by decide +kernel
theorem dX4_step_278 : decode cX4_step 278 = .ok (.if_icmp .gt 7, 3) := by decide +kernel
theorem dX4_step_281 : decode cX4_step 281 = .ok (.iconst 2, 1) := by decide +kernel
theorem dX4_step_282 : decode cX4_step 282 = .ok (.goto 4, 3) := by decide +kernel
theorem dX4_step_285 : decode cX4_step 285 = .ok (.iconst 5, 1) := by decide +kernel
theorem dX4_step_286 : decode cX4_step 286 = .ok (.putfield 57, 3) := by decide +kernel
theorem dX4_step_289 : decode cX4_step 289 = .ok (.return_, 1) := by decide +kernel
theorem dX4_step_290 : decode cX4_step 290 = .ok (.aload_n 0, 1) := by decide +kernel
theorem dX4_step_291 : decode cX4_step 291 = .ok (.aload_n 0, 1) := by decide +kernel
theorem dX4_step_292 : decode cX4_step 292 = .ok (.getfield 63, 3) := by decide +kernel
theorem dX4_step_295 : decode cX4_step 295 = .ok (.iconst 1, 1) := by decide +kernel
theorem dX4_step_296 : decode cX4_step 296 = .ok (.iadd, 1) := by decide +kernel
theorem dX4_step_297 : decode cX4_step 297 = .ok (.putfield 38, 3) := by decide +kernel
theorem dX4_step_300 : decode cX4_step 300 = .ok (.aload_n 0, 1) := by decide +kernel
theorem dX4_step_301 : decode cX4_step 301 = .ok (.getfield 63, 3) := by decide +kernel
theorem dX4_step_304 : decode cX4_step 304 = .ok (.aload_n 0, 1) := by decide +kernel
theorem dX4_step_305 : decode cX4_step 305 = .ok (.getfield 34, 3) := by decide +kernel
theorem dX4_step_308 : decode cX4_step 308 = .ok (.if_icmp .lt 11, 3) := by decide +kernel
theorem dX4_step_311 : decode cX4_step 311 = .ok (.aload_n 0, 1) := by decide +kernel
theorem dX4_step_312 : decode cX4_step 312 = .ok (.iconst 0, 1) := by decide +kernel
theorem dX4_step_313 : decode cX4_step 313 = .ok (.putfield 57, 3) := by decide +kernel
theorem dX4_step_316 : decode cX4_step 316 = .ok (.goto 48, 3) := by decide +kernel
theorem dX4_step_319 : decode cX4_step 319 = .ok (.aload_n 0, 1) := by decide +kernel
theorem dX4_step_320 : decode cX4_step 320 = .ok (.getfield 11, 3) := by decide +kernel
theorem dX4_step_323 : decode cX4_step 323 = .ok (.aload_n 0, 1) := by decide +kernel
theorem dX4_step_324 : decode cX4_step 324 = .ok (.getfield 63, 3) := by decide +kernel
theorem dX4_step_327 : decode cX4_step 327 = .ok (.iaload, 1) := by decide +kernel
theorem dX4_step_328 : decode cX4_step 328 = .ok (.bipush 59, 2) := by decide +kernel
theorem dX4_step_330 : decode cX4_step 330 = .ok (.if_icmp .ne 11, 3) := by decide +kernel
theorem dX4_step_333 : decode cX4_step 333 = .ok (.aload_n 0, 1) := by decide +kernel
theorem dX4_step_334 : decode cX4_step 334 = .ok (.iconst 3, 1) := by decide +kernel
theorem dX4_step_335 : decode cX4_step 335 = .ok (.putfield 57, 3) := by decide +kernel
theorem dX4_step_338 : decode cX4_step 338 = .ok (.goto 26, 3) := by decide +kernel
theorem dX4_step_341 : decode cX4_step 341 = .ok (.aload_n 0, 1) := by decide +kernel
theorem dX4_step_342 : decode cX4_step 342 = .ok (.aload_n 0, 1) := by decide +kernel
theorem dX4_step_343 : decode cX4_step 343 = .ok (.getfield 11, 3) := by decide +kernel
theorem dX4_step_346 : decode cX4_step 346 = .ok (.aload_n 0, 1) := by decide +kernel
theorem dX4_step_347 : decode cX4_step 347 = .ok (.getfield 63, 3) := by decide +kernel
theorem dX4_step_350 : decode cX4_step 350 = .ok (.iaload, 1) := by decide +kernel
theorem dX4_step_351 : decode cX4_step 351 = .ok (.bipush 44, 2) := by decide +kernel
theorem dX4_step_353 : decode cX4_step 353 = .ok (.if_icmp .ne 7, 3) := by decide +kernel
theorem dX4_step_356 : decode cX4_step 356 = .ok (.iconst 4, 1) := by decide +kernel
theorem dX4_step_357 : decode cX4_step 357 = .ok (.goto 4, 3) := by decide +kernel
theorem dX4_step_360 : decode cX4_step 360 = .ok (.iconst 5, 1) := by decide +kernel
theorem dX4_step_361 : decode cX4_step 361 = .ok (.putfield 57, 3) := by decide +kernel
theorem dX4_step_364 : decode cX4_step 364 = .ok (.return_, 1) := by decide +kernel
theorem dX4_storeLine_0 : decode cX4_storeLine 0 = .ok (.aload_n 0, 1) := by decide +kernel
theorem dX4_storeLine_1 : decode cX4_storeLine 1 = .ok (.iconst 0, 1) := by decide +kernel
theorem dX4_storeLine_2 : decode cX4_storeLine 2 = .ok (.bipush 6, 2) := by decide +kernel
theorem dX4_storeLine_4 : decode cX4_storeLine 4 = .ok (.invokevirtual 157, 3) := by decide +kernel
theorem dX4_storeLine_7 : decode cX4_storeLine 7 = .ok (.ifCond .ne 5, 3) := by decide +kernel
theorem dX4_storeLine_10 : decode cX4_storeLine 10 = .ok (.iconst 0, 1) := by decide +kernel
theorem dX4_storeLine_11 : decode cX4_storeLine 11 = .ok (.ireturn, 1) := by decide +kernel
theorem dX4_storeLine_12 : decode cX4_storeLine 12 = .ok (.aload_n 0, 1) := by decide +kernel
theorem dX4_storeLine_13 : decode cX4_storeLine 13 = .ok (.invokevirtual 50, 3) := by decide +kernel
theorem dX4_storeLine_16 : decode cX4_storeLine 16 = .ok (.aload_n 0, 1) := by decide +kernel
theorem dX4_storeLine_17 : decode cX4_storeLine 17 = .ok (.getfield 63, 3) := by decide +kernel
theorem dX4_storeLine_20 : decode cX4_storeLine 20 = .ok (.istore_n 1, 1) := by decide +kernel
theorem dX4_storeLine_21 : decode cX4_storeLine 21 = .ok (.aload_n 0, 1) := by decide +kernel
theorem dX4_storeLine_22 : decode cX4_storeLine 22 = .ok (.iconst 0, 1) := by decide +kernel
theorem dX4_storeLine_23 : decode cX4_storeLine 23 = .ok (.aload_n 0, 1) := by decide +kernel
theorem dX4_storeLine_24 : decode cX4_storeLine 24 = .ok (.getfield 17, 3) := by decide +kernel
theorem dX4_storeLine_27 : decode cX4_storeLine 27 = .ok (.getfield 60, 3) := by decide +kernel
theorem dX4_storeLine_30 : decode cX4_storeLine 30 = .ok (.iconst 1, 1) := by decide +kernel
theorem dX4_storeLine_31 : decode cX4_storeLine 31 = .ok (.isub, 1) := by decide +kernel
theorem dX4_storeLine_32 : decode cX4_storeLine 32 = .ok (.invokevirtual 117, 3) := by decide +kernel
theorem dX4_storeLine_35 : decode cX4_storeLine 35 = .ok (.ifCond .ne 5, 3) := by decide +kernel
theorem dX4_storeLine_38 : decode cX4_storeLine 38 = .ok (.iconst 0, 1) := by decide +kernel
theorem dX4_storeLine_39 : decode cX4_storeLine 39 = .ok (.ireturn, 1) := by decide +kernel
theorem dX4_storeLine_40 : decode cX4_storeLine 40 = .ok (.aload_n 0, 1) := by decide +kernel
theorem dX4_storeLine_41 : decode cX4_storeLine 41 = .ok (.getfield 17, 3) := by decide +kernel
theorem dX4_storeLine_44 : decode cX4_storeLine 44 = .ok (.getfield 189, 3) := by decide +kernel
theorem dX4_storeLine_47 : decode cX4_storeLine 47 = .ok (.aload_n 0, 1) := by decide +kernel
theorem dX4_storeLine_48 : decode cX4_storeLine 48 = .ok (.getfield 111, 3) := by decide +kernel
theorem dX4_storeLine_51 : decode cX4_storeLine 51 = .ok (.aaload, 1) := by decide +kernel
theorem dX4_storeLine_52 : decode cX4_storeLine 52 = .ok (.astore_n 2, 1) := by decide +kernel
theorem dX4_storeLine_53 : decode cX4_storeLine 53 = .ok (.aload_n 2, 1) := by decide +kernel
theorem dX4_storeLine_54 : decode cX4_storeLine 54 = .ok (.iconst 0, 1) := by decide +kernel
theorem dX4_storeLine_55 : decode cX4_storeLine 55 = .ok (.iaload, 1) := by decide +kernel
theorem dX4_storeLine_56 : decode cX4_storeLine 56 = .ok (.ifCond .eq 10, 3) := by decide +kernel
theorem dX4_storeLine_59 : decode cX4_storeLine 59 = .ok (.aload_n 0, 1) := by decide +kernel
theorem dX4_storeLine_60 : decode cX4_storeLine 60 = .ok (.iconst 3, 1) := by decide +kernel
theorem dX4_storeLine_61 : decode cX4_storeLine 61 = .ok (.iload_n 1, 1) := by decide +kernel
theorem dX4_storeLine_62 : decode cX4_storeLine 62 = .ok (.invokevirtual 66, 3) := by decide +kernel
theorem dX4_storeLine_65 : decode cX4_storeLine 65 = .ok (.ireturn, 1) := by decide +kernel
theorem dX4_storeLine_66 : decode cX4_storeLine 66 = .ok (.aload_n 2, 1) := by decide +kernel
theorem dX4_storeLine_67 : decode cX4_storeLine 67 = .ok (.iconst 0, 1) := by decide +kernel
theorem dX4_storeLine_68 : decode cX4_storeLine 68 = .ok (.iconst 1, 1) := by decide +kernel
theorem dX4_storeLine_69 : decode cX4_storeLine 69 = .ok (.iastore, 1) := by decide +kernel
theorem dX4_storeLine_70 : decode cX4_storeLine 70 = .ok (.aload_n 0, 1) := by decide +kernel
theorem dX4_storeLine_71 : decode cX4_storeLine 71 = .ok (.ldc 191, 2) := by decide +kernel
theorem dX4_storeLine_73 : decode cX4_storeLine 73 = .ok (.iconst 0, 1) := by decide +kernel
theorem dX4_storeLine_74 : decode cX4_storeLine 74 = .ok (.sipush 999, 3) := by decide +kernel
theorem dX4_storeLine_77 : decode cX4_storeLine 77 = .ok (.aload_n 2, 1) := by decide +kernel
theorem dX4_storeLine_78 : decode cX4_storeLine 78 = .ok (.iconst 1, 1) := by decide +kernel
theorem dX4_storeLine_79 : decode cX4_storeLine 79 = .ok (.invokevirtual 169, 3) := by decide +kernel
theorem dX4_storeLine_82 : decode cX4_storeLine 82 = .ok (.ifCond .eq 21, 3) := by decide +kernel
theorem dX4_storeLine_85 : decode cX4_storeLine 85 = .ok (.aload_n 0, 1) := by decide +kernel
theorem dX4_storeLine_86 : decode cX4_storeLine 86 = .ok (.ldc 193, 2) := by decide +kernel
theorem dX4_storeLine_88 : decode cX4_storeLine 88 = .ok (.iconst 0, 1) := by decide +kernel
theorem dX4_storeLine_89 : decode cX4_storeLine 89 = .ok (.bipush 99, 2) := by decide +kernel
theorem dX4_storeLine_91 : decode cX4_storeLine 91 = .ok (.aload_n 2, 1) := by decide +kernel
theorem dX4_storeLine_92 : decode cX4_storeLine 92 = .ok (.iconst 2, 1) := by decide +kernel
theorem dX4_storeLine_93 : decode cX4_storeLine 93 = .ok (.invokevirtual 169, 3) := by decide +kernel
theorem dX4_storeLine_96 : decode cX4_storeLine 96 = .ok (.ifCond .eq 7, 3) := by decide +kernel
theorem dX4_storeLine_99 : decode cX4_storeLine 99 = .ok (.iconst 1, 1) := by decide +kernel
theorem dX4_storeLine_100 : decode cX4_storeLine 100 = .ok (.goto 4, 3) := by decide +kernel
theorem dX4_storeLine_103 : decode cX4_storeLine 103 = .ok (.iconst 0, 1) := by decide +kernel
theorem dX4_storeLine_104 : decode cX4_storeLine 104 = .ok (.ireturn, 1) := by decide +kernel
