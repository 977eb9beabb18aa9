theorem dJ0_length_8abf5_0 : decode cJ0_length_8abf5 0 = .ok (.aload_n 0, 1) := by decide +kernel
theorem dJ0_length_8abf5_1 : decode cJ0_length_8abf5 1 = .ok (.getfield 9, 3) := by decide +kernel
theorem dJ0_length_8abf5_4 : decode cJ0_length_8abf5 4 = .ok (.arraylength, 1) := by decide +kernel
theorem dJ0_length_8abf5_5 : decode cJ0_length_8abf5 5 = .ok (.aload_n 0, 1) := by decide +kernel
theorem dJ0_length_8abf5_6 : decode cJ0_length_8abf5 6 = .ok (.invokevirtual 335, 3) := by decide +kernel
theorem dJ0_length_8abf5_9 : decode cJ0_length_8abf5 9 = .ok (.ishr, 1) := by decide +kernel
theorem dJ0_length_8abf5_10 : decode cJ0_length_8abf5 10 = .ok (.ireturn, 1) := by decide +kernel
theorem dJ0_charAt_5068e_0 : decode cJ0_charAt_5068e 0 = .ok (.aload_n 0, 1) := by decide +kernel
theorem dJ0_charAt_5068e_1 : decode cJ0_charAt_5068e 1 = .ok (.invokevirtual 492, 3) := by decide +kernel
theorem dJ0_charAt_5068e_4 : decode cJ0_charAt_5068e 4 = .ok (.ifCond .eq 12, 3) := by decide +kernel
theorem dJ0_charAt_5068e_7 : decode cJ0_charAt_5068e 7 = .ok (.aload_n 0, 1) := by decide +kernel
theorem dJ0_charAt_5068e_8 : decode cJ0_charAt_5068e 8 = .ok (.getfield 9, 3) := by decide +kernel
theorem dJ0_charAt_5068e_11 : decode cJ0_charAt_5068e 11 = .ok (.iload_n 1, 1) := by decide +kernel
theorem dJ0_charAt_5068e_12 : decode cJ0_charAt_5068e 12 = .ok (.invokestatic 495, 3) := by decide +kernel
theorem dJ0_charAt_5068e_15 : decode cJ0_charAt_5068e 15 = .ok (.ireturn, 1) := by decide +kernel
theorem dJ0_charAt_5068e_16 : decode cJ0_charAt_5068e 16 = .ok (.aload_n 0, 1) := by decide +kernel
theorem dJ0_charAt_5068e_17 : decode cJ0_charAt_5068e 17 = .ok (.getfield 9, 3) := by decide +kernel
theorem dJ0_charAt_5068e_20 : decode cJ0_charAt_5068e 20 = .ok (.iload_n 1, 1) := by decide +kernel
theorem dJ0_charAt_5068e_21 : decode cJ0_charAt_5068e 21 = .ok (.invokestatic 498, 3) := by decide +kernel
theorem dJ0_charAt_5068e_24 : decode cJ0_charAt_5068e 24 = .ok (.ireturn, 1) := by decide +kernel
theorem dJ0_coder_7d493_0 : decode cJ0_coder_7d493 0 = .ok (.getstatic 38, 3) := by decide +kernel
theorem dJ0_coder_7d493_3 : decode cJ0_coder_7d493 3 = .ok (.ifCond .eq 10, 3) := by decide +kernel
theorem dJ0_coder_7d493_6 : decode cJ0_coder_7d493 6 = .ok (.aload_n 0, 1) := by decide +kernel
theorem dJ0_coder_7d493_7 : decode cJ0_coder_7d493 7 = .ok (.getfield 15, 3) := by decide +kernel
theorem dJ0_coder_7d493_10 : decode cJ0_coder_7d493 10 = .ok (.goto 4, 3) := by decide +kernel
theorem dJ0_coder_7d493_13 : decode cJ0_coder_7d493 13 = .ok (.iconst 1, 1) := by decide +kernel
theorem dJ0_coder_7d493_14 : decode cJ0_coder_7d493 14 = .ok (.ireturn, 1) := by decide +kernel
theorem dJ0_isLatin1_aae02_0 : decode cJ0_isLatin1_aae02 0 = .ok (.getstatic 38, 3) := by decide +kernel
theorem dJ0_isLatin1_aae02_3 : decode cJ0_isLatin1_aae02 3 = .ok (.ifCond .eq 14, 3) := by decide +kernel
theorem dJ0_isLatin1_aae02_6 : decode cJ0_isLatin1_aae02 6 = .ok (.aload_n 0, 1) := by decide +kernel
theorem dJ0_isLatin1_aae02_7 : decode cJ0_isLatin1_aae02 7 = .ok (.getfield 15, 3) := by decide +kernel
theorem dJ0_isLatin1_aae02_10 : decode cJ0_isLatin1_aae02 10 = .ok (.ifCond .ne 7, 3) := by decide +kernel
theorem dJ0_isLatin1_aae02_13 : decode cJ0_isLatin1_aae02 13 = .ok (.iconst 1, 1) := by decide +kernel
theorem dJ0_isLatin1_aae02_14 : decode cJ0_isLatin1_aae02 14 = .ok (.goto 4, 3) := by decide +kernel
theorem dJ0_isLatin1_aae02_17 : decode cJ0_isLatin1_aae02 17 = .ok (.iconst 0, 1) := by decide +kernel
theorem dJ0_isLatin1_aae02_18 : decode cJ0_isLatin1_aae02 18 = .ok (.ireturn, 1) := by decide +kernel
theorem dJ0_checkIndex_df160_0 : decode cJ0_checkIndex_df160 0 = .ok (.iload_n 0, 1) := by decide +kernel
theorem dJ0_checkIndex_df160_1 : decode cJ0_checkIndex_df160 1 = .ok (.iload_n 1, 1) := by decide +kernel
theorem dJ0_checkIndex_df160_2 : decode cJ0_checkIndex_df160 2 = .ok (.getstatic 1053, 3) := by decide +kernel
theorem dJ0_checkIndex_df160_5 : decode cJ0_checkIndex_df160 5 = .ok (.invokestatic 1059, 3) := by decide +kernel
theorem dJ0_checkIndex_df160_8 : decode cJ0_checkIndex_df160 8 = .ok (.pop, 1) := by decide +kernel
theorem dJ0_checkIndex_df160_9 : decode cJ0_checkIndex_df160 9 = .ok (.return_, 1) := by decide +kernel
theorem dJ1_charAt_3b067_0 : decode cJ1_charAt_3b067 0 = .ok (.iload_n 1, 1) := by decide +kernel
theorem dJ1_charAt_3b067_1 : decode cJ1_charAt_3b067 1 = .ok (.aload_n 0, 1) := by decide +kernel
theorem dJ1_charAt_3b067_2 : decode cJ1_charAt_3b067 2 = .ok (.arraylength, 1) := by decide +kernel
theorem dJ1_charAt_3b067_3 : decode cJ1_charAt_3b067 3 = .ok (.invokestatic 9, 3) := by decide +kernel
theorem dJ1_charAt_3b067_6 : decode cJ1_charAt_3b067 6 = .ok (.aload_n 0, 1) := by decide +kernel
theorem dJ1_charAt_3b067_7 : decode cJ1_charAt_3b067 7 = .ok (.iload_n 1, 1) := by decide +kernel
theorem dJ1_charAt_3b067_8 : decode cJ1_charAt_3b067 8 = .ok (.baload, 1) := by decide +kernel
theorem dJ1_charAt_3b067_9 : decode cJ1_charAt_3b067 9 = .ok (.sipush 255, 3) := by decide +kernel
theorem dJ1_charAt_3b067_12 : decode cJ1_charAt_3b067 12 = .ok (.iand, 1) := by decide +kernel
theorem dJ1_charAt_3b067_13 : decode cJ1_charAt_3b067 13 = .ok (.i2c, 1) := by decide +kernel
theorem dJ1_charAt_3b067_14 : decode cJ1_charAt_3b067 14 = .ok (.ireturn, 1) := by decide +kernel
theorem dJ3_checkIndex_8e157_0 : decode cJ3_checkIndex_8e157 0 = .ok (.iload_n 0, 1) := by decide +kernel
theorem dJ3_checkIndex_8e157_1 : decode cJ3_checkIndex_8e157 1 = .ok (.ifCond .lt 8, 3) := by decide +kernel
theorem dJ3_checkIndex_8e157_4 : decode cJ3_checkIndex_8e157 4 = .ok (.iload_n 0, 1) := by decide +kernel
theorem dJ3_checkIndex_8e157_5 : decode cJ3_checkIndex_8e157 5 = .ok (.iload_n 1, 1) := by decide +kernel
theorem dJ3_checkIndex_8e157_6 : decode cJ3_checkIndex_8e157 6 = .ok (.if_icmp .lt 10, 3) := by decide +kernel
theorem dJ3_checkIndex_8e157_9 : decode cJ3_checkIndex_8e157 9 = .ok (.aload_n 2, 1) := by decide +kernel
theorem dJ3_checkIndex_8e157_10 : decode cJ3_checkIndex_8e157 10 = .ok (.iload_n 0, 1) := by decide +kernel
theorem dJ3_checkIndex_8e157_11 : decode cJ3_checkIndex_8e157 11 = .ok (.iload_n 1, 1) := by decide +kernel
theorem dJ3_checkIndex_8e157_12 : decode cJ3_checkIndex_8e157 12 = .ok (.invokestatic 95, 3) := by decide +kernel
theorem dJ3_checkIndex_8e157_15 : decode cJ3_checkIndex_8e157 15 = .ok (.athrow, 1) := by decide +kernel
theorem dJ3_checkIndex_8e157_16 : decode cJ3_checkIndex_8e157 16 = .ok (.iload_n 0, 1) := by decide +kernel
theorem dJ3_checkIndex_8e157_17 : decode cJ3_checkIndex_8e157 17 = .ok (.ireturn, 1) := by decide +kernel
theorem dJ7_fill_53178_0 : decode cJ7_fill_53178 0 = .ok (.iconst 0, 1) := by decide +kernel
theorem dJ7_fill_53178_1 : decode cJ7_fill_53178 1 = .ok (.istore_n 2, 1) := by decide +kernel
theorem dJ7_fill_53178_2 : decode cJ7_fill_53178 2 = .ok (.aload_n 0, 1) := by decide +kernel
theorem dJ7_fill_53178_3 : decode cJ7_fill_53178 3 = .ok (.arraylength, 1) := by decide +kernel
theorem dJ7_fill_53178_4 : decode cJ7_fill_53178 4 = .ok (.istore_n 3, 1) := by decide +kernel
theorem dJ7_fill_53178_5 : decode cJ7_fill_53178 5 = .ok (.iload_n 2, 1) := by decide +kernel
theorem dJ7_fill_53178_6 : decode cJ7_fill_53178 6 = .ok (.iload_n 3, 1) := by decide +kernel
theorem dJ7_fill_53178_7 : decode cJ7_fill_53178 7 = .ok (.if_icmp .ge 13, 3) := by decide +kernel
theorem dJ7_fill_53178_10 : decode cJ7_fill_53178 10 = .ok (.aload_n 0, 1) := by decide +kernel
theorem dJ7_fill_53178_11 : decode cJ7_fill_53178 11 = .ok (.iload_n 2, 1) := by decide +kernel
theorem dJ7_fill_53178_12 : decode cJ7_fill_53178 12 = .ok (.iload_n 1, 1) := by decide +kernel
theorem dJ7_fill_53178_13 : decode cJ7_fill_53178 13 = .ok (.iastore, 1) := by decide +kernel
theorem dJ7_fill_53178_14 : decode cJ7_fill_53178 14 = .ok (.iinc 2 1, 3) := by decide +kernel
theorem dJ7_fill_53178_17 : decode cJ7_fill_53178 17 = .ok (.goto (-12), 3) := by decide +kernel
theorem dJ7_fill_53178_20 : decode cJ7_fill_53178 20 = .ok (.return_, 1) := by decide +kernel
theorem dX0_forgetOldest_0 : decode cX0_forgetOldest 0 = .ok (.iconst 1, 1) := by decide +kernel
theorem dX0_forgetOldest_1 : decode cX0_forgetOldest 1 = .ok (.istore_n 1, 1) := by decide +kernel
theorem dX0_forgetOldest_2 : decode cX0_forgetOldest 2 = .ok (.iload_n 1, 1) := by decide +kernel
theorem dX0_forgetOldest_3 : decode cX0_forgetOldest 3 = .ok (.bipush 10, 2) := by decide +kernel
theorem dX0_forgetOldest_5 : decode cX0_forgetOldest 5 = .ok (.if_icmp .ge 29, 3) := by decide +kernel
theorem dX0_forgetOldest_8 : decode cX0_forgetOldest 8 = .ok (.aload_n 0, 1) := by decide +kernel
theorem dX0_forgetOldest_9 : decode cX0_forgetOldest 9 = .ok (.getfield 11, 3) := by decide +kernel
theorem dX0_forgetOldest_12 : decode cX0_forgetOldest 12 = .ok (.iload_n 1, 1) := by decide +kernel
theorem dX0_forgetOldest_13 : decode cX0_forgetOldest 13 = .ok (.aaload, 1) := by decide +kernel
theorem dX0_forgetOldest_14 : decode cX0_forgetOldest 14 = .ok (.iconst 0, 1) := by decide +kernel
theorem dX0_forgetOldest_15 : decode cX0_forgetOldest 15 = .ok (.aload_n 0, 1) := by decide +kernel
theorem dX0_forgetOldest_16 : decode cX0_forgetOldest 16 = .ok (.getfield 11, 3) := by decide +kernel
theorem dX0_forgetOldest_19 : decode cX0_forgetOldest 19 = .ok (.iload_n 1, 1) := by decide +kernel
theorem dX0_forgetOldest_20 : decode cX0_forgetOldest 20 = .ok (.iconst 1, 1) := by decide +kernel
theorem dX0_forgetOldest_21 : decode cX0_forgetOldest 21 = .ok (.isub, 1) := by decide +kernel
theorem dX0_forgetOldest_22 : decode cX0_forgetOldest 22 = .ok (.aaload, 1) := by decide +kernel
theorem dX0_forgetOldest_23 : decode cX0_forgetOldest 23 = .ok (.iconst 0, 1) := by decide +kernel
theorem dX0_forgetOldest_24 : decode cX0_forgetOldest 24 = .ok (.iconst 5, 1) := by decide +kernel
theorem dX0_forgetOldest_25 : decode cX0_forgetOldest 25 = .ok (.invokestatic 29, 3) := by decide +kernel
theorem dX0_forgetOldest_28 : decode cX0_forgetOldest 28 = .ok (.iinc 1 1, 3) := by decide +kernel
theorem dX0_forgetOldest_31 : decode cX0_forgetOldest 31 = .ok (.goto (-29), 3) := by decide +kernel
theorem dX0_forgetOldest_34 : decode cX0_forgetOldest 34 = .ok (.aload_n 0, 1) := by decide +kernel
theorem dX0_forgetOldest_35 : decode cX0_forgetOldest 35 = .ok (.bipush 9, 2) := by decide +kernel
theorem dX0_forgetOldest_37 : decode cX0_forgetOldest 37 = .ok (.putfield 14, 3) := by decide +kernel
theorem dX0_forgetOldest_40 : decode cX0_forgetOldest 40 = .ok (.return_, 1) := by decide +kernel
theorem dX0_init_0 : decode cX0_init 0 = .ok (.aload_n 0, 1) := by decide +kernel
theorem dX0_init_1 : decode cX0_init 1 = .ok (.invokespecial 1, 3) := by decide +kernel
theorem dX0_init_4 : decode cX0_init 4 = .ok (.aload_n 0, 1) := by decide +kernel
theorem dX0_init_5 : decode cX0_init 5 = .ok (.bipush 10, 2) := by decide +kernel
theorem dX0_init_7 : decode cX0_init 7 = .ok (.iconst 5, 1) := by decide +kernel
theorem dX0_init_8 : decode cX0_init 8 = .ok (.multianewarray 9 2, 4) := by decide +kernel
theorem dX0_init_12 : decode cX0_init 12 = .ok (.putfield 11, 3) := by decide +kernel
theorem dX0_init_15 : decode cX0_init 15 = .ok (.return_, 1) := by decide +kernel
theorem dX0_keep_0 : decode cX0_keep 0 = .ok (.aload_n 0, 1) := by decide +kernel
theorem dX0_keep_1 : decode cX0_keep 1 = .ok (.getfield 14, 3) := by decide +kernel
theorem dX0_keep_4 : decode cX0_keep 4 = .ok (.bipush 10, 2) := by decide +kernel
theorem dX0_keep_6 : decode cX0_keep 6 = .ok (.if_icmp .lt 7, 3) := by decide +kernel
theorem dX0_keep_9 : decode cX0_keep 9 = .ok (.aload_n 0, 1) := by decide +kernel
theorem dX0_keep_10 : decode cX0_keep 10 = .ok (.invokevirtual 18, 3) := by decide +kernel
theorem dX0_keep_13 : decode cX0_keep 13 = .ok (.aload_n 0, 1) := by decide +kernel
theorem dX0_keep_14 : decode cX0_keep 14 = .ok (.getfield 11, 3) := by decide +kernel
theorem dX0_keep_17 : decode cX0_keep 17 = .ok (.aload_n 0, 1) := by decide +kernel
theorem dX0_keep_18 : decode cX0_keep 18 = .ok (.getfield 14, 3) := by decide +kernel
theorem dX0_keep_21 : decode cX0_keep 21 = .ok (.aaload, 1) := by decide +kernel
theorem dX0_keep_22 : decode cX0_keep 22 = .ok (.iconst 0, 1) := by decide +kernel
theorem dX0_keep_23 : decode cX0_keep 23 = .ok (.iload_n 2, 1) := by decide +kernel
theorem dX0_keep_24 : decode cX0_keep 24 = .ok (.iastore, 1) := by decide +kernel
theorem dX0_keep_25 : decode cX0_keep 25 = .ok (.aload_n 0, 1) := by decide +kernel
theorem dX0_keep_26 : decode cX0_keep 26 = .ok (.getfield 11, 3) := by decide +kernel
theorem dX0_keep_29 : decode cX0_keep 29 = .ok (.aload_n 0, 1) := by decide +kernel
theorem dX0_keep_30 : decode cX0_keep 30 = .ok (.getfield 14, 3) := by decide +kernel
theorem dX0_keep_33 : decode cX0_keep 33 = .ok (.aaload, 1) := by decide +kernel
theorem dX0_keep_34 : decode cX0_keep 34 = .ok (.iconst 1, 1) := by decide +kernel
theorem dX0_keep_35 : decode cX0_keep 35 = .ok (.aload_n 1, 1) := by decide +kernel
theorem dX0_keep_36 : decode cX0_keep 36 = .ok (.getfield 21, 3) := by decide +kernel
theorem dX0_keep_39 : decode cX0_keep 39 = .ok (.iastore, 1) := by decide +kernel
theorem dX0_keep_40 : decode cX0_keep 40 = .ok (.aload_n 0, 1) := by decide +kernel
theorem dX0_keep_41 : decode cX0_keep 41 = .ok (.getfield 11, 3) := by decide +kernel
theorem dX0_keep_44 : decode cX0_keep 44 = .ok (.aload_n 0, 1) := by decide +kernel
theorem dX0_keep_45 : decode cX0_keep 45 = .ok (.getfield 14, 3) := by decide +kernel
theorem dX0_keep_48 : decode cX0_keep 48 = .ok (.aaload, 1) := by decide +kernel
theorem dX0_keep_49 : decode cX0_keep 49 = .ok (.iconst 2, 1) := by decide +kernel
theorem dX0_keep_50 : decode cX0_keep 50 = .ok (.aload_n 1, 1) := by decide +kernel
theorem dX0_keep_51 : decode cX0_keep 51 = .ok (.getfield 26, 3) := by decide +kernel
theorem dX0_keep_54 : decode cX0_keep 54 = .ok (.iload_n 2, 1) := by decide +kernel
theorem dX0_keep_55 : decode cX0_keep 55 = .ok (.aaload, 1) := by decide +kernel
theorem dX0_keep_56 : decode cX0_keep 56 = .ok (.iconst 2, 1) := by decide +kernel
theorem dX0_keep_57 : decode cX0_keep 57 = .ok (.iaload, 1) := by decide +kernel
theorem dX0_keep_58 : decode cX0_keep 58 = .ok (.iastore, 1) := by decide +kernel
theorem dX0_keep_59 : decode cX0_keep 59 = .ok (.aload_n 0, 1) := by decide +kernel
theorem dX0_keep_60 : decode cX0_keep 60 = .ok (.getfield 11, 3) := by decide +kernel
theorem dX0_keep_63 : decode cX0_keep 63 = .ok (.aload_n 0, 1) := by decide +kernel
theorem dX0_keep_64 : decode cX0_keep 64 = .ok (.getfield 14, 3) := by decide +kernel
theorem dX0_keep_67 : decode cX0_keep 67 = .ok (.aaload, 1) := by decide +kernel
theorem dX0_keep_68 : decode cX0_keep 68 = .ok (.iconst 3, 1) := by decide +kernel
theorem dX0_keep_69 : decode cX0_keep 69 = .ok (.aload_n 1, 1) := by decide +kernel
theorem dX0_keep_70 : decode cX0_keep 70 = .ok (.getfield 26, 3) := by decide +kernel
theorem dX0_keep_73 : decode cX0_keep 73 = .ok (.iload_n 2, 1) := by decide +kernel
theorem dX0_keep_74 : decode cX0_keep 74 = .ok (.aaload, 1) := by decide +kernel
theorem dX0_keep_75 : decode cX0_keep 75 = .ok (.iconst 3, 1) := by decide +kernel
theorem dX0_keep_76 : decode cX0_keep 76 = .ok (.iaload, 1) := by decide +kernel
theorem dX0_keep_77 : decode cX0_keep 77 = .ok (.iastore, 1) := by decide +kernel
theorem dX0_keep_78 : decode cX0_keep 78 = .ok (.aload_n 0, 1) := by decide +kernel
theorem dX0_keep_79 : decode cX0_keep 79 = .ok (.getfield 11, 3) := by decide +kernel
theorem dX0_keep_82 : decode cX0_keep 82 = .ok (.aload_n 0, 1) := by decide +kernel
theorem dX0_keep_83 : decode cX0_keep 83 = .ok (.getfield 14, 3) := by decide +kernel
theorem dX0_keep_86 : decode cX0_keep 86 = .ok (.aaload, 1) := by decide +kernel
theorem dX0_keep_87 : decode cX0_keep 87 = .ok (.iconst 4, 1) := by decide +kernel
theorem dX0_keep_88 : decode cX0_keep 88 = .ok (.aload_n 1, 1) := by decide +kernel
theorem dX0_keep_89 : decode cX0_keep 89 = .ok (.getfield 26, 3) := by decide +kernel
theorem dX0_keep_92 : decode cX0_keep 92 = .ok (.iload_n 2, 1) := by decide +kernel
theorem dX0_keep_93 : decode cX0_keep 93 = .ok (.aaload, 1) := by decide +kernel
theorem dX0_keep_94 : decode cX0_keep 94 = .ok (.bipush 6, 2) := by decide +kernel
theorem dX0_keep_96 : decode cX0_keep 96 = .ok (.iaload, 1) := by decide +kernel
theorem dX0_keep_97 : decode cX0_keep 97 = .ok (.iastore, 1) := by decide +kernel
theorem dX0_keep_98 : decode cX0_keep 98 = .ok (.aload_n 0, 1) := by decide +kernel
theorem dX0_keep_99 : decode cX0_keep 99 = .ok (.dup, 1) := by decide +kernel
theorem dX0_keep_100 : decode cX0_keep 100 = .ok (.getfield 14, 3) := by decide +kernel
theorem dX0_keep_103 : decode cX0_keep 103 = .ok (.iconst 1, 1) := by decide +kernel
theorem dX0_keep_104 : decode cX0_keep 104 = .ok (.iadd, 1) := by decide +kernel
theorem dX0_keep_105 : decode cX0_keep 105 = .ok (.putfield 14, 3) := by decide +kernel
theorem dX0_keep_108 : decode cX0_keep 108 = .ok (.return_, 1) := by decide +kernel
theorem dX0_takeBack_0 : decode cX0_takeBack 0 = .ok (.aload_n 0, 1) := by decide +kernel
theorem dX0_takeBack_1 : decode cX0_takeBack 1 = .ok (.getfield 14, 3) := by decide +kernel
theorem dX0_takeBack_4 : decode cX0_takeBack 4 = .ok (.ifCond .ne 4, 3) := by decide +kernel
theorem dX0_takeBack_7 : decode cX0_takeBack 7 = .ok (.return_, 1) := by decide +kernel
theorem dX0_takeBack_8 : decode cX0_takeBack 8 = .ok (.aload_n 0, 1) := by decide +kernel
theorem dX0_takeBack_9 : decode cX0_takeBack 9 = .ok (.dup, 1) := by decide +kernel
theorem dX0_takeBack_10 : decode cX0_takeBack 10 = .ok (.getfield 14, 3) := by decide +kernel
theorem dX0_takeBack_13 : decode cX0_takeBack 13 = .ok (.iconst 1, 1) := by decide +kernel
theorem dX0_takeBack_14 : decode cX0_takeBack 14 = .ok (.isub, 1) := by decide +kernel
theorem dX0_takeBack_15 : decode cX0_takeBack 15 = .ok (.putfield 14, 3) := by decide +kernel
theorem dX0_takeBack_18 : decode cX0_takeBack 18 = .ok (.aload_n 1, 1) := by decide +kernel
theorem dX0_takeBack_19 : decode cX0_takeBack 19 = .ok (.getfield 26, 3) := by decide +kernel
theorem dX0_takeBack_22 : decode cX0_takeBack 22 = .ok (.aload_n 0, 1) := by decide +kernel
theorem dX0_takeBack_23 : decode cX0_takeBack 23 = .ok (.getfield 11, 3) := by decide +kernel
theorem dX0_takeBack_26 : decode cX0_takeBack 26 = .ok (.aload_n 0, 1) := by decide +kernel
theorem dX0_takeBack_27 : decode cX0_takeBack 27 = .ok (.getfield 14, 3) := by decide +kernel
theorem dX0_takeBack_30 : decode cX0_takeBack 30 = .ok (.aaload, 1) := by decide +kernel
theorem dX0_takeBack_31 : decode cX0_takeBack 31 = .ok (.iconst 0, 1) := by decide +kernel
theorem dX0_takeBack_32 : decode cX0_takeBack 32 = .ok (.iaload, 1) := by decide +kernel
theorem dX0_takeBack_33 : decode cX0_takeBack 33 = .ok (.aaload, 1) := by decide +kernel
theorem dX0_takeBack_34 : decode cX0_takeBack 34 = .ok (.astore_n 2, 1) := by decide +kernel
theorem dX0_takeBack_35 : decode cX0_takeBack 35 = .ok (.aload_n 1, 1) := by decide +kernel
theorem dX0_takeBack_36 : decode cX0_takeBack 36 = .ok (.aload_n 0, 1) := by decide +kernel
theorem dX0_takeBack_37 : decode cX0_takeBack 37 = .ok (.getfield 11, 3) := by decide +kernel
theorem dX0_takeBack_40 : decode cX0_takeBack 40 = .ok (.aload_n 0, 1) := by decide +kernel
theorem dX0_takeBack_41 : decode cX0_takeBack 41 = .ok (.getfield 14, 3) := by decide +kernel
theorem dX0_takeBack_44 : decode cX0_takeBack 44 = .ok (.aaload, 1) := by decide +kernel
theorem dX0_takeBack_45 : decode cX0_takeBack 45 = .ok (.iconst 1, 1) := by decide +kernel
theorem dX0_takeBack_46 : decode cX0_takeBack 46 = .ok (.iaload, 1) := by decide +kernel
theorem dX0_takeBack_47 : decode cX0_takeBack 47 = .ok (.putfield 21, 3) := by decide +kernel
theorem dX0_takeBack_50 : decode cX0_takeBack 50 = .ok (.aload_n 2, 1) := by decide +kernel
theorem dX0_takeBack_51 : decode cX0_takeBack 51 = .ok (.iconst 2, 1) := by decide +kernel
theorem dX0_takeBack_52 : decode cX0_takeBack 52 = .ok (.aload_n 0, 1) := by decide +kernel
theorem dX0_takeBack_53 : decode cX0_takeBack 53 = .ok (.getfield 11, 3) := by decide +kernel
theorem dX0_takeBack_56 : decode cX0_takeBack 56 = .ok (.aload_n 0, 1) := by decide +kernel
theorem dX0_takeBack_57 : decode cX0_takeBack 57 = .ok (.getfield 14, 3) := by decide +kernel
theorem dX0_takeBack_60 : decode cX0_takeBack 60 = .ok (.aaload, 1) := by decide +kernel
theorem dX0_takeBack_61 : decode cX0_takeBack 61 = .ok (.iconst 2, 1) := by decide +kernel
theorem dX0_takeBack_62 : decode cX0_takeBack 62 = .ok (.iaload, 1) := by decide +kernel
theorem dX0_takeBack_63 : decode cX0_takeBack 63 = .ok (.iastore, 1) := by decide +kernel
theorem dX0_takeBack_64 : decode cX0_takeBack 64 = .ok (.aload_n 2, 1) := by decide +kernel
theorem dX0_takeBack_65 : decode cX0_takeBack 65 = .ok (.iconst 3, 1) := by decide +kernel
theorem dX0_takeBack_66 : decode cX0_takeBack 66 = .ok (.aload_n 0, 1) := by decide +kernel
theorem dX0_takeBack_67 : decode cX0_takeBack 67 = .ok (.getfield 11, 3) := by decide +kernel
theorem dX0_takeBack_70 : decode cX0_takeBack 70 = .ok (.aload_n 0, 1) := by decide +kernel
theorem dX0_takeBack_71 : decode cX0_takeBack 71 = .ok (.getfield 14, 3) := by decide +kernel
theorem dX0_takeBack_74 : decode cX0_takeBack 74 = .ok (.aaload, 1) := by decide +kernel
theorem dX0_takeBack_75 : decode cX0_takeBack 75 = .ok (.iconst 3, 1) := by decide +kernel
theorem dX0_takeBack_76 : decode cX0_takeBack 76 = .ok (.iaload, 1) := by decide +kernel
theorem dX0_takeBack_77 : decode cX0_takeBack 77 = .ok (.iastore, 1) := by decide +kernel
theorem dX0_takeBack_78 : decode cX0_takeBack 78 = .ok (.aload_n 2, 1) := by decide +kernel
theorem dX0_takeBack_79 : decode cX0_takeBack 79 = .ok (.bipush 6, 2) := by decide +kernel
theorem dX0_takeBack_81 : decode cX0_takeBack 81 = .ok (.aload_n 0, 1) := by decide +kernel
theorem dX0_takeBack_82 : decode cX0_takeBack 82 = .ok (.getfield 11, 3) := by decide +kernel
theorem dX0_takeBack_85 : decode cX0_takeBack 85 = .ok (.aload_n 0, 1) := by decide +kernel
theorem dX0_takeBack_86 : decode cX0_takeBack 86 = .ok (.getfield 14, 3) := by decide +kernel
theorem dX0_takeBack_89 : decode cX0_takeBack 89 = .ok (.aaload, 1) := by decide +kernel
theorem dX0_takeBack_90 : decode cX0_takeBack 90 = .ok (.iconst 4, 1) := by decide +kernel
theorem dX0_takeBack_91 : decode cX0_takeBack 91 = .ok (.iaload, 1) := by decide +kernel
theorem dX0_takeBack_92 : decode cX0_takeBack 92 = .ok (.iastore, 1) := by decide +kernel
theorem dX0_takeBack_93 : decode cX0_takeBack 93 = .ok (.return_, 1) := by decide +kernel
theorem dX1_barOf_0 : decode cX1_barOf 0 = .ok (.aload_n 0, 1) := by decide +kernel
theorem dX1_barOf_1 : decode cX1_barOf 1 = .ok (.aload_n 1, 1) := by decide +kernel
theorem dX1_barOf_2 : decode cX1_barOf 2 = .ok (.iconst 0, 1) := by decide +kernel
theorem dX1_barOf_3 : decode cX1_barOf 3 = .ok (.iload_n 2, 1) := by decide +kernel
theorem dX1_barOf_4 : decode cX1_barOf 4 = .ok (.invokevirtual 84, 3) := by decide +kernel
theorem dX1_barOf_7 : decode cX1_barOf 7 = .ok (.istore_n 3, 1) := by decide +kernel
theorem dX1_barOf_8 : decode cX1_barOf 8 = .ok (.iconst 1, 1) := by decide +kernel
theorem dX1_barOf_9 : decode cX1_barOf 9 = .ok (.istore 4, 2) := by decide +kernel
theorem dX1_barOf_11 : decode cX1_barOf 11 = .ok (.iload 4, 2) := by decide +kernel
theorem dX1_barOf_13 : decode cX1_barOf 13 = .ok (.iconst 3, 1) := by decide +kernel
theorem dX1_barOf_14 : decode cX1_barOf 14 = .ok (.if_icmp .ge 31, 3) := by decide +kernel
theorem dX1_barOf_17 : decode cX1_barOf 17 = .ok (.aload_n 1, 1) := by decide +kernel
theorem dX1_barOf_18 : decode cX1_barOf 18 = .ok (.iload 4, 2) := by decide +kernel
theorem dX1_barOf_20 : decode cX1_barOf 20 = .ok (.invokevirtual 88, 3) := by decide +kernel
theorem dX1_barOf_23 : decode cX1_barOf 23 = .ok (.ifCond .eq 16, 3) := by decide +kernel
theorem dX1_barOf_26 : decode cX1_barOf 26 = .ok (.iload_n 3, 1) := by decide +kernel
theorem dX1_barOf_27 : decode cX1_barOf 27 = .ok (.aload_n 0, 1) := by decide +kernel
theorem dX1_barOf_28 : decode cX1_barOf 28 = .ok (.aload_n 1, 1) := by decide +kernel
theorem dX1_barOf_29 : decode cX1_barOf 29 = .ok (.iload 4, 2) := by decide +kernel
theorem dX1_barOf_31 : decode cX1_barOf 31 = .ok (.iload_n 2, 1) := by decide +kernel
theorem dX1_barOf_32 : decode cX1_barOf 32 = .ok (.invokevirtual 84, 3) := by decide +kernel
theorem dX1_barOf_35 : decode cX1_barOf 35 = .ok (.invokestatic 92, 3) := by decide +kernel
theorem dX1_barOf_38 : decode cX1_barOf 38 = .ok (.istore_n 3, 1) := by decide +kernel
theorem dX1_barOf_39 : decode cX1_barOf 39 = .ok (.iinc 4 1, 3) := by decide +kernel
theorem dX1_barOf_42 : decode cX1_barOf 42 = .ok (.goto (-31), 3) := by decide +kernel
theorem dX1_barOf_45 : decode cX1_barOf 45 = .ok (.iload_n 3, 1) := by decide +kernel
theorem dX1_barOf_46 : decode cX1_barOf 46 = .ok (.ireturn, 1) := by decide +kernel
theorem dX1_canCut_0 : decode cX1_canCut 0 = .ok (.aload_n 0, 1) := by decide +kernel
theorem dX1_canCut_1 : decode cX1_canCut 1 = .ok (.getfield 35, 3) := by decide +kernel
theorem dX1_canCut_4 : decode cX1_canCut 4 = .ok (.iload_n 1, 1) := by decide +kernel
theorem dX1_canCut_5 : decode cX1_canCut 5 = .ok (.aaload, 1) := by decide +kernel
theorem dX1_canCut_6 : decode cX1_canCut 6 = .ok (.getfield 61, 3) := by decide +kernel
theorem dX1_canCut_9 : decode cX1_canCut 9 = .ok (.iconst 1, 1) := by decide +kernel
theorem dX1_canCut_10 : decode cX1_canCut 10 = .ok (.if_icmp .le 7, 3) := by decide +kernel
theorem dX1_canCut_13 : decode cX1_canCut 13 = .ok (.iconst 1, 1) := by decide +kernel
theorem dX1_canCut_14 : decode cX1_canCut 14 = .ok (.goto 4, 3) := by decide +kernel
theorem dX1_canCut_17 : decode cX1_canCut 17 = .ok (.iconst 0, 1) := by decide +kernel
theorem dX1_canCut_18 : decode cX1_canCut 18 = .ok (.ireturn, 1) := by decide +kernel
theorem dX1_cartBears_0 : decode cX1_cartBears 0 = .ok (.aload_n 0, 1) := by decide +kernel
theorem dX1_cartBears_1 : decode cX1_cartBears 1 = .ok (.getfield 20, 3) := by decide +kernel
theorem dX1_cartBears_4 : decode cX1_cartBears 4 = .ok (.iload_n 2, 1) := by decide +kernel
theorem dX1_cartBears_5 : decode cX1_cartBears 5 = .ok (.aaload, 1) := by decide +kernel
theorem dX1_cartBears_6 : decode cX1_cartBears 6 = .ok (.iconst 0, 1) := by decide +kernel
theorem dX1_cartBears_7 : decode cX1_cartBears 7 = .ok (.iaload, 1) := by decide +kernel
theorem dX1_cartBears_8 : decode cX1_cartBears 8 = .ok (.iload_n 3, 1) := by decide +kernel
theorem dX1_cartBears_9 : decode cX1_cartBears 9 = .ok (.if_icmp .ne 22, 3) := by decide +kernel
theorem dX1_cartBears_12 : decode cX1_cartBears 12 = .ok (.aload_n 0, 1) := by decide +kernel
theorem dX1_cartBears_13 : decode cX1_cartBears 13 = .ok (.getfield 20, 3) := by decide +kernel
theorem dX1_cartBears_16 : decode cX1_cartBears 16 = .ok (.iload_n 2, 1) := by decide +kernel
theorem dX1_cartBears_17 : decode cX1_cartBears 17 = .ok (.aaload, 1) := by decide +kernel
theorem dX1_cartBears_18 : decode cX1_cartBears 18 = .ok (.iconst 1, 1) := by decide +kernel
theorem dX1_cartBears_19 : decode cX1_cartBears 19 = .ok (.iaload, 1) := by decide +kernel
theorem dX1_cartBears_20 : decode cX1_cartBears 20 = .ok (.aload_n 1, 1) := by decide +kernel
theorem dX1_cartBears_21 : decode cX1_cartBears 21 = .ok (.getfield 75, 3) := by decide +kernel
theorem dX1_cartBears_24 : decode cX1_cartBears 24 = .ok (.if_icmp .lt 7, 3) := by decide +kernel
theorem dX1_cartBears_27 : decode cX1_cartBears 27 = .ok (.iconst 1, 1) := by decide +kernel
theorem dX1_cartBears_28 : decode cX1_cartBears 28 = .ok (.goto 4, 3) := by decide +kernel
theorem dX1_cartBears_31 : decode cX1_cartBears 31 = .ok (.iconst 0, 1) := by decide +kernel
theorem dX1_cartBears_32 : decode cX1_cartBears 32 = .ok (.ireturn, 1) := by decide +kernel
theorem dX1_daysOf_0 : decode cX1_daysOf 0 = .ok (.iconst 0, 1) := by decide +kernel
theorem dX1_daysOf_1 : decode cX1_daysOf 1 = .ok (.istore_n 2, 1) := by decide +kernel
theorem dX1_daysOf_2 : decode cX1_daysOf 2 = .ok (.iconst 0, 1) := by decide +kernel
theorem dX1_daysOf_3 : decode cX1_daysOf 3 = .ok (.istore_n 3, 1) := by decide +kernel
theorem dX1_daysOf_4 : decode cX1_daysOf 4 = .ok (.iconst 0, 1) := by decide +kernel
theorem dX1_daysOf_5 : decode cX1_daysOf 5 = .ok (.istore 4, 2) := by decide +kernel
theorem dX1_daysOf_7 : decode cX1_daysOf 7 = .ok (.iload 4, 2) := by decide +kernel
theorem dX1_daysOf_9 : decode cX1_daysOf 9 = .ok (.aload_n 0, 1) := by decide +kernel
theorem dX1_daysOf_10 : decode cX1_daysOf 10 = .ok (.getfield 39, 3) := by decide +kernel
theorem dX1_daysOf_13 : decode cX1_daysOf 13 = .ok (.if_icmp .ge 43, 3) := by decide +kernel
theorem dX1_daysOf_16 : decode cX1_daysOf 16 = .ok (.iload_n 3, 1) := by decide +kernel
theorem dX1_daysOf_17 : decode cX1_daysOf 17 = .ok (.aload_n 0, 1) := by decide +kernel
theorem dX1_daysOf_18 : decode cX1_daysOf 18 = .ok (.getfield 23, 3) := by decide +kernel
theorem dX1_daysOf_21 : decode cX1_daysOf 21 = .ok (.iload 4, 2) := by decide +kernel
theorem dX1_daysOf_23 : decode cX1_daysOf 23 = .ok (.aaload, 1) := by decide +kernel
theorem dX1_daysOf_24 : decode cX1_daysOf 24 = .ok (.iconst 2, 1) := by decide +kernel
theorem dX1_daysOf_25 : decode cX1_daysOf 25 = .ok (.iaload, 1) := by decide +kernel
theorem dX1_daysOf_26 : decode cX1_daysOf 26 = .ok (.iadd, 1) := by decide +kernel
theorem dX1_daysOf_27 : decode cX1_daysOf 27 = .ok (.istore_n 3, 1) := by decide +kernel
theorem dX1_daysOf_28 : decode cX1_daysOf 28 = .ok (.iload_n 2, 1) := by decide +kernel
theorem dX1_daysOf_29 : decode cX1_daysOf 29 = .ok (.iload 4, 2) := by decide +kernel
theorem dX1_daysOf_31 : decode cX1_daysOf 31 = .ok (.iload_n 1, 1) := by decide +kernel
theorem dX1_daysOf_32 : decode cX1_daysOf 32 = .ok (.if_icmp .lt 15, 3) := by decide +kernel
theorem dX1_daysOf_35 : decode cX1_daysOf 35 = .ok (.aload_n 0, 1) := by decide +kernel
theorem dX1_daysOf_36 : decode cX1_daysOf 36 = .ok (.getfield 23, 3) := by decide +kernel
theorem dX1_daysOf_39 : decode cX1_daysOf 39 = .ok (.iload 4, 2) := by decide +kernel
theorem dX1_daysOf_41 : decode cX1_daysOf 41 = .ok (.aaload, 1) := by decide +kernel
theorem dX1_daysOf_42 : decode cX1_daysOf 42 = .ok (.iconst 1, 1) := by decide +kernel
theorem dX1_daysOf_43 : decode cX1_daysOf 43 = .ok (.iaload, 1) := by decide +kernel
theorem dX1_daysOf_44 : decode cX1_daysOf 44 = .ok (.goto 4, 3) := by decide +kernel
theorem dX1_daysOf_47 : decode cX1_daysOf 47 = .ok (.iconst 0, 1) := by decide +kernel
theorem dX1_daysOf_48 : decode cX1_daysOf 48 = .ok (.iadd, 1) := by decide +kernel
theorem dX1_daysOf_49 : decode cX1_daysOf 49 = .ok (.istore_n 2, 1) := by decide +kernel
theorem dX1_daysOf_50 : decode cX1_daysOf 50 = .ok (.iinc 4 1, 3) := by decide +kernel
theorem dX1_daysOf_53 : decode cX1_daysOf 53 = .ok (.goto (-46), 3) := by decide +kernel
theorem dX1_daysOf_56 : decode cX1_daysOf 56 = .ok (.iload_n 3, 1) := by decide +kernel
theorem dX1_daysOf_57 : decode cX1_daysOf 57 = .ok (.ifCond .ne 9, 3) := by decide +kernel
theorem dX1_daysOf_60 : decode cX1_daysOf 60 = .ok (.sipush 999, 3) := by decide +kernel
theorem dX1_daysOf_63 : decode cX1_daysOf 63 = .ok (.goto 6, 3) := by decide +kernel
theorem dX1_daysOf_66 : decode cX1_daysOf 66 = .ok (.iload_n 2, 1) := by decide +kernel
theorem dX1_daysOf_67 : decode cX1_daysOf 67 = .ok (.iload_n 3, 1) := by decide +kernel
theorem dX1_daysOf_68 : decode cX1_daysOf 68 = .ok (.idiv, 1) := by decide +kernel
theorem dX1_daysOf_69 : decode cX1_daysOf 69 = .ok (.ireturn, 1) := by decide +kernel
theorem dX1_depthOf_0 : decode cX1_depthOf 0 = .ok (.aload_n 0, 1) := by decide +kernel
theorem dX1_depthOf_1 : decode cX1_depthOf 1 = .ok (.aload_n 1, 1) := by decide +kernel
theorem dX1_depthOf_2 : decode cX1_depthOf 2 = .ok (.iconst 0, 1) := by decide +kernel
theorem dX1_depthOf_3 : decode cX1_depthOf 3 = .ok (.iload_n 2, 1) := by decide +kernel
theorem dX1_depthOf_4 : decode cX1_depthOf 4 = .ok (.invokevirtual 108, 3) := by decide +kernel
theorem dX1_depthOf_7 : decode cX1_depthOf 7 = .ok (.ifCond .ne 6, 3) := by decide +kernel
theorem dX1_depthOf_10 : decode cX1_depthOf 10 = .ok (.bipush (-2), 2) := by decide +kernel
theorem dX1_depthOf_12 : decode cX1_depthOf 12 = .ok (.ireturn, 1) := by decide +kernel
theorem dX1_depthOf_13 : decode cX1_depthOf 13 = .ok (.iconst 0, 1) := by decide +kernel
theorem dX1_depthOf_14 : decode cX1_depthOf 14 = .ok (.istore_n 3, 1) := by decide +kernel
theorem dX1_depthOf_15 : decode cX1_depthOf 15 = .ok (.iload_n 3, 1) := by decide +kernel
theorem dX1_depthOf_16 : decode cX1_depthOf 16 = .ok (.iconst 1, 1) := by decide +kernel
theorem dX1_depthOf_17 : decode cX1_depthOf 17 = .ok (.iadd, 1) := by decide +kernel
theorem dX1_depthOf_18 : decode cX1_depthOf 18 = .ok (.aload_n 0, 1) := by decide +kernel
theorem dX1_depthOf_19 : decode cX1_depthOf 19 = .ok (.getfield 39, 3) := by decide +kernel
theorem dX1_depthOf_22 : decode cX1_depthOf 22 = .ok (.if_icmp .ge 30, 3) := by decide +kernel
theorem dX1_depthOf_25 : decode cX1_depthOf 25 = .ok (.aload_n 0, 1) := by decide +kernel
theorem dX1_depthOf_26 : decode cX1_depthOf 26 = .ok (.aload_n 1, 1) := by decide +kernel
theorem dX1_depthOf_27 : decode cX1_depthOf 27 = .ok (.iload_n 3, 1) := by decide +kernel
theorem dX1_depthOf_28 : decode cX1_depthOf 28 = .ok (.iconst 1, 1) := by decide +kernel
theorem dX1_depthOf_29 : decode cX1_depthOf 29 = .ok (.iadd, 1) := by decide +kernel
theorem dX1_depthOf_30 : decode cX1_depthOf 30 = .ok (.iload_n 2, 1) := by decide +kernel
theorem dX1_depthOf_31 : decode cX1_depthOf 31 = .ok (.invokevirtual 108, 3) := by decide +kernel
theorem dX1_depthOf_34 : decode cX1_depthOf 34 = .ok (.ifCond .eq 18, 3) := by decide +kernel
theorem dX1_depthOf_37 : decode cX1_depthOf 37 = .ok (.aload_n 0, 1) := by decide +kernel
theorem dX1_depthOf_38 : decode cX1_depthOf 38 = .ok (.aload_n 1, 1) := by decide +kernel
theorem dX1_depthOf_39 : decode cX1_depthOf 39 = .ok (.iload_n 3, 1) := by decide +kernel
theorem dX1_depthOf_40 : decode cX1_depthOf 40 = .ok (.invokevirtual 112, 3) := by decide +kernel
theorem dX1_depthOf_43 : decode cX1_depthOf 43 = .ok (.ifCond .eq 9, 3) := by decide +kernel
theorem dX1_depthOf_46 : decode cX1_depthOf 46 = .ok (.iinc 3 1, 3) := by decide +kernel
theorem dX1_depthOf_49 : decode cX1_depthOf 49 = .ok (.goto (-34), 3) := by decide +kernel
theorem dX1_depthOf_52 : decode cX1_depthOf 52 = .ok (.iload_n 3, 1) := by decide +kernel
theorem dX1_depthOf_53 : decode cX1_depthOf 53 = .ok (.ireturn, 1) := by decide +kernel
theorem dX1_empty_0 : decode cX1_empty 0 = .ok (.aload_n 0, 1) := by decide +kernel
theorem dX1_empty_1 : decode cX1_empty 1 = .ok (.iconst 0, 1) := by decide +kernel
theorem dX1_empty_2 : decode cX1_empty 2 = .ok (.putfield 39, 3) := by decide +kernel
theorem dX1_empty_5 : decode cX1_empty 5 = .ok (.aload_n 0, 1) := by decide +kernel
theorem dX1_empty_6 : decode cX1_empty 6 = .ok (.iconst 0, 1) := by decide +kernel
theorem dX1_empty_7 : decode cX1_empty 7 = .ok (.putfield 43, 3) := by decide +kernel
theorem dX1_empty_10 : decode cX1_empty 10 = .ok (.aload_n 0, 1) := by decide +kernel
theorem dX1_empty_11 : decode cX1_empty 11 = .ok (.iconst 0, 1) := by decide +kernel
theorem dX1_empty_12 : decode cX1_empty 12 = .ok (.putfield 46, 3) := by decide +kernel
theorem dX1_empty_15 : decode cX1_empty 15 = .ok (.aload_n 0, 1) := by decide +kernel
theorem dX1_empty_16 : decode cX1_empty 16 = .ok (.iconst 0, 1) := by decide +kernel
theorem dX1_empty_17 : decode cX1_empty 17 = .ok (.putfield 49, 3) := by decide +kernel
theorem dX1_empty_20 : decode cX1_empty 20 = .ok (.aload_n 0, 1) := by decide +kernel
theorem dX1_empty_21 : decode cX1_empty 21 = .ok (.iconst 0, 1) := by decide +kernel
theorem dX1_empty_22 : decode cX1_empty 22 = .ok (.putfield 52, 3) := by decide +kernel
theorem dX1_empty_25 : decode cX1_empty 25 = .ok (.iconst 0, 1) := by decide +kernel
theorem dX1_empty_26 : decode cX1_empty 26 = .ok (.istore_n 1, 1) := by decide +kernel
theorem dX1_empty_27 : decode cX1_empty 27 = .ok (.iload_n 1, 1) := by decide +kernel
theorem dX1_empty_28 : decode cX1_empty 28 = .ok (.bipush 6, 2) := by decide +kernel
theorem dX1_empty_30 : decode cX1_empty 30 = .ok (.if_icmp .ge 19, 3) := by decide +kernel
theorem dX1_empty_33 : decode cX1_empty 33 = .ok (.aload_n 0, 1) := by decide +kernel
theorem dX1_empty_34 : decode cX1_empty 34 = .ok (.getfield 23, 3) := by decide +kernel
theorem dX1_empty_37 : decode cX1_empty 37 = .ok (.iload_n 1, 1) := by decide +kernel
theorem dX1_empty_38 : decode cX1_empty 38 = .ok (.aaload, 1) := by decide +kernel
theorem dX1_empty_39 : decode cX1_empty 39 = .ok (.iconst 0, 1) := by decide +kernel
theorem dX1_empty_40 : decode cX1_empty 40 = .ok (.invokestatic 55, 3) := by decide +kernel
theorem dX1_empty_43 : decode cX1_empty 43 = .ok (.iinc 1 1, 3) := by decide +kernel
theorem dX1_empty_46 : decode cX1_empty 46 = .ok (.goto (-19), 3) := by decide +kernel
theorem dX1_empty_49 : decode cX1_empty 49 = .ok (.return_, 1) := by decide +kernel
theorem dX1_init_0 : decode cX1_init 0 = .ok (.aload_n 0, 1) := by decide +kernel
theorem dX1_init_1 : decode cX1_init 1 = .ok (.invokespecial 3, 3) := by decide +kernel
theorem dX1_init_4 : decode cX1_init 4 = .ok (.aload_n 0, 1) := by decide +kernel
theorem dX1_init_5 : decode cX1_init 5 = .ok (.bipush 6, 2) := by decide +kernel
theorem dX1_init_7 : decode cX1_init 7 = .ok (.newarray .int, 2) := by decide +kernel
theorem dX1_init_9 : decode cX1_init 9 = .ok (.putfield 11, 3) := by decide +kernel
theorem dX1_init_12 : decode cX1_init 12 = .ok (.aload_n 0, 1) := by decide +kernel
theorem dX1_init_13 : decode cX1_init 13 = .ok (.bipush 11, 2) := by decide +kernel
theorem dX1_init_15 : decode cX1_init 15 = .ok (.bipush 7, 2) := by decide +kernel
theorem dX1_init_17 : decode cX1_init 17 = .ok (.multianewarray 15 2, 4) := by decide +kernel
theorem dX1_init_21 : decode cX1_init 21 = .ok (.putfield 17, 3) := by decide +kernel
theorem dX1_init_24 : decode cX1_init 24 = .ok (.aload_n 0, 1) := by decide +kernel
theorem dX1_init_25 : decode cX1_init 25 = .ok (.bipush 8, 2) := by decide +kernel
theorem dX1_init_27 : decode cX1_init 27 = .ok (.iconst 2, 1) := by decide +kernel
theorem dX1_init_28 : decode cX1_init 28 = .ok (.multianewarray 15 2, 4) := by decide +kernel
theorem dX1_init_32 : decode cX1_init 32 = .ok (.putfield 20, 3) := by decide +kernel
theorem dX1_init_35 : decode cX1_init 35 = .ok (.aload_n 0, 1) := by decide +kernel
theorem dX1_init_36 : decode cX1_init 36 = .ok (.bipush 6, 2) := by decide +kernel
theorem dX1_init_38 : decode cX1_init 38 = .ok (.iconst 3, 1) := by decide +kernel
theorem dX1_init_39 : decode cX1_init 39 = .ok (.multianewarray 15 2, 4) := by decide +kernel
theorem dX1_init_43 : decode cX1_init 43 = .ok (.putfield 23, 3) := by decide +kernel
theorem dX1_init_46 : decode cX1_init 46 = .ok (.aload_n 0, 1) := by decide +kernel
theorem dX1_init_47 : decode cX1_init 47 = .ok (.bipush 8, 2) := by decide +kernel
theorem dX1_init_49 : decode cX1_init 49 = .ok (.bipush 6, 2) := by decide +kernel
theorem dX1_init_51 : decode cX1_init 51 = .ok (.multianewarray 15 2, 4) := by decide +kernel
theorem dX1_init_55 : decode cX1_init 55 = .ok (.putfield 26, 3) := by decide +kernel
theorem dX1_init_58 : decode cX1_init 58 = .ok (.aload_n 0, 1) := by decide +kernel
theorem dX1_init_59 : decode cX1_init 59 = .ok (.bipush 8, 2) := by decide +kernel
theorem dX1_init_61 : decode cX1_init 61 = .ok (.anewarray 29, 3) := by decide +kernel
theorem dX1_init_64 : decode cX1_init 64 = .ok (.putfield 31, 3) := by decide +kernel
theorem dX1_init_67 : decode cX1_init 67 = .ok (.aload_n 0, 1) := by decide +kernel
theorem dX1_init_68 : decode cX1_init 68 = .ok (.bipush 8, 2) := by decide +kernel
theorem dX1_init_70 : decode cX1_init 70 = .ok (.anewarray 29, 3) := by decide +kernel
theorem dX1_init_73 : decode cX1_init 73 = .ok (.putfield 35, 3) := by decide +kernel
theorem dX1_init_76 : decode cX1_init 76 = .ok (.iconst 0, 1) := by decide +kernel
theorem dX1_init_77 : decode cX1_init 77 = .ok (.istore_n 1, 1) := by decide +kernel
theorem dX1_init_78 : decode cX1_init 78 = .ok (.iload_n 1, 1) := by decide +kernel
theorem dX1_init_79 : decode cX1_init 79 = .ok (.bipush 8, 2) := by decide +kernel
theorem dX1_init_81 : decode cX1_init 81 = .ok (.if_icmp .ge 35, 3) := by decide +kernel
theorem dX1_init_84 : decode cX1_init 84 = .ok (.aload_n 0, 1) := by decide +kernel
theorem dX1_init_85 : decode cX1_init 85 = .ok (.getfield 31, 3) := by decide +kernel
theorem dX1_init_88 : decode cX1_init 88 = .ok (.iload_n 1, 1) := by decide +kernel
theorem dX1_init_89 : decode cX1_init 89 = .ok (.new 29, 3) := by decide +kernel
theorem dX1_init_92 : decode cX1_init 92 = .ok (.dup, 1) := by decide +kernel
theorem dX1_init_93 : decode cX1_init 93 = .ok (.invokespecial 38, 3) := by decide +kernel
theorem dX1_init_96 : decode cX1_init 96 = .ok (.aastore, 1) := by decide +kernel
theorem dX1_init_97 : decode cX1_init 97 = .ok (.aload_n 0, 1) := by decide +kernel
theorem dX1_init_98 : decode cX1_init 98 = .ok (.getfield 35, 3) := by decide +kernel
theorem dX1_init_101 : decode cX1_init 101 = .ok (.iload_n 1, 1) := by decide +kernel
theorem dX1_init_102 : decode cX1_init 102 = .ok (.new 29, 3) := by decide +kernel
theorem dX1_init_105 : decode cX1_init 105 = .ok (.dup, 1) := by decide +kernel
theorem dX1_init_106 : decode cX1_init 106 = .ok (.invokespecial 38, 3) := by decide +kernel
theorem dX1_init_109 : decode cX1_init 109 = .ok (.aastore, 1) := by decide +kernel
theorem dX1_init_110 : decode cX1_init 110 = .ok (.iinc 1 1, 3) := by decide +kernel
theorem dX1_init_113 : decode cX1_init 113 = .ok (.goto (-35), 3) := by decide +kernel
theorem dX1_init_116 : decode cX1_init 116 = .ok (.return_, 1) := by decide +kernel
theorem dX1_letsThrough_0 : decode cX1_letsThrough 0 = .ok (.aload_n 0, 1) := by decide +kernel
theorem dX1_letsThrough_1 : decode cX1_letsThrough 1 = .ok (.getfield 17, 3) := by decide +kernel
theorem dX1_letsThrough_4 : decode cX1_letsThrough 4 = .ok (.iload_n 2, 1) := by decide +kernel
theorem dX1_letsThrough_5 : decode cX1_letsThrough 5 = .ok (.aaload, 1) := by decide +kernel
theorem dX1_letsThrough_6 : decode cX1_letsThrough 6 = .ok (.bipush 6, 2) := by decide +kernel
theorem dX1_letsThrough_8 : decode cX1_letsThrough 8 = .ok (.iaload, 1) := by decide +kernel
theorem dX1_letsThrough_9 : decode cX1_letsThrough 9 = .ok (.ifCond .ne 16, 3) := by decide +kernel
theorem dX1_letsThrough_12 : decode cX1_letsThrough 12 = .ok (.aload_n 0, 1) := by decide +kernel
theorem dX1_letsThrough_13 : decode cX1_letsThrough 13 = .ok (.aload_n 1, 1) := by decide +kernel
theorem dX1_letsThrough_14 : decode cX1_letsThrough 14 = .ok (.iload_n 2, 1) := by decide +kernel
theorem dX1_letsThrough_15 : decode cX1_letsThrough 15 = .ok (.invokevirtual 98, 3) := by decide +kernel
theorem dX1_letsThrough_18 : decode cX1_letsThrough 18 = .ok (.ifCond .ne 7, 3) := by decide +kernel
theorem dX1_letsThrough_21 : decode cX1_letsThrough 21 = .ok (.iconst 1, 1) := by decide +kernel
theorem dX1_letsThrough_22 : decode cX1_letsThrough 22 = .ok (.goto 4, 3) := by decide +kernel
theorem dX1_letsThrough_25 : decode cX1_letsThrough 25 = .ok (.iconst 0, 1) := by decide +kernel
theorem dX1_letsThrough_26 : decode cX1_letsThrough 26 = .ok (.ireturn, 1) := by decide +kernel
theorem dX1_loadingHours_0 : decode cX1_loadingHours 0 = .ok (.aload_n 1, 1) := by decide +kernel
theorem dX1_loadingHours_1 : decode cX1_loadingHours 1 = .ok (.getfield 75, 3) := by decide +kernel
theorem dX1_loadingHours_4 : decode cX1_loadingHours 4 = .ok (.aload_n 0, 1) := by decide +kernel
theorem dX1_loadingHours_5 : decode cX1_loadingHours 5 = .ok (.getfield 17, 3) := by decide +kernel
theorem dX1_loadingHours_8 : decode cX1_loadingHours 8 = .ok (.iload_n 2, 1) := by decide +kernel
theorem dX1_loadingHours_9 : decode cX1_loadingHours 9 = .ok (.aaload, 1) := by decide +kernel
theorem dX1_loadingHours_10 : decode cX1_loadingHours 10 = .ok (.iconst 4, 1) := by decide +kernel
theorem dX1_loadingHours_11 : decode cX1_loadingHours 11 = .ok (.iaload, 1) := by decide +kernel
theorem dX1_loadingHours_12 : decode cX1_loadingHours 12 = .ok (.invokestatic 102, 3) := by decide +kernel
theorem dX1_loadingHours_15 : decode cX1_loadingHours 15 = .ok (.ireturn, 1) := by decide +kernel
theorem dX1_loadingPay_0 : decode cX1_loadingPay 0 = .ok (.aload_n 0, 1) := by decide +kernel
theorem dX1_loadingPay_1 : decode cX1_loadingPay 1 = .ok (.getfield 17, 3) := by decide +kernel
theorem dX1_loadingPay_4 : decode cX1_loadingPay 4 = .ok (.iload_n 2, 1) := by decide +kernel
theorem dX1_loadingPay_5 : decode cX1_loadingPay 5 = .ok (.aaload, 1) := by decide +kernel
theorem dX1_loadingPay_6 : decode cX1_loadingPay 6 = .ok (.iconst 5, 1) := by decide +kernel
theorem dX1_loadingPay_7 : decode cX1_loadingPay 7 = .ok (.iaload, 1) := by decide +kernel
theorem dX1_loadingPay_8 : decode cX1_loadingPay 8 = .ok (.aload_n 0, 1) := by decide +kernel
theorem dX1_loadingPay_9 : decode cX1_loadingPay 9 = .ok (.aload_n 1, 1) := by decide +kernel
theorem dX1_loadingPay_10 : decode cX1_loadingPay 10 = .ok (.iload_n 2, 1) := by decide +kernel
theorem dX1_loadingPay_11 : decode cX1_loadingPay 11 = .ok (.invokevirtual 105, 3) := by decide +kernel
theorem dX1_loadingPay_14 : decode cX1_loadingPay 14 = .ok (.aload_n 0, 1) := by decide +kernel
theorem dX1_loadingPay_15 : decode cX1_loadingPay 15 = .ok (.getfield 17, 3) := by decide +kernel
theorem dX1_loadingPay_18 : decode cX1_loadingPay 18 = .ok (.iload_n 2, 1) := by decide +kernel
theorem dX1_loadingPay_19 : decode cX1_loadingPay 19 = .ok (.aaload, 1) := by decide +kernel
theorem dX1_loadingPay_20 : decode cX1_loadingPay 20 = .ok (.iconst 4, 1) := by decide +kernel
theorem dX1_loadingPay_21 : decode cX1_loadingPay 21 = .ok (.iaload, 1) := by decide +kernel
theorem dX1_loadingPay_22 : decode cX1_loadingPay 22 = .ok (.imul, 1) := by decide +kernel
theorem dX1_loadingPay_23 : decode cX1_loadingPay 23 = .ok (.iadd, 1) := by decide +kernel
theorem dX1_loadingPay_24 : decode cX1_loadingPay 24 = .ok (.ireturn, 1) := by decide +kernel
theorem dX1_meets_0 : decode cX1_meets 0 = .ok (.aload_n 0, 1) := by decide +kernel
theorem dX1_meets_1 : decode cX1_meets 1 = .ok (.getfield 17, 3) := by decide +kernel
theorem dX1_meets_4 : decode cX1_meets 4 = .ok (.iload_n 3, 1) := by decide +kernel
theorem dX1_meets_5 : decode cX1_meets 5 = .ok (.aaload, 1) := by decide +kernel
theorem dX1_meets_6 : decode cX1_meets 6 = .ok (.astore 4, 2) := by decide +kernel
theorem dX1_meets_8 : decode cX1_meets 8 = .ok (.aload_n 0, 1) := by decide +kernel
theorem dX1_meets_9 : decode cX1_meets 9 = .ok (.getfield 11, 3) := by decide +kernel
theorem dX1_meets_12 : decode cX1_meets 12 = .ok (.aload 4, 2) := by decide +kernel
theorem dX1_meets_14 : decode cX1_meets 14 = .ok (.iconst 0, 1) := by decide +kernel
theorem dX1_meets_15 : decode cX1_meets 15 = .ok (.iaload, 1) := by decide +kernel
theorem dX1_meets_16 : decode cX1_meets 16 = .ok (.iaload, 1) := by decide +kernel
theorem dX1_meets_17 : decode cX1_meets 17 = .ok (.istore 5, 2) := by decide +kernel
theorem dX1_meets_19 : decode cX1_meets 19 = .ok (.aload_n 0, 1) := by decide +kernel
theorem dX1_meets_20 : decode cX1_meets 20 = .ok (.getfield 11, 3) := by decide +kernel
theorem dX1_meets_23 : decode cX1_meets 23 = .ok (.aload 4, 2) := by decide +kernel
theorem dX1_meets_25 : decode cX1_meets 25 = .ok (.iconst 0, 1) := by decide +kernel
theorem dX1_meets_26 : decode cX1_meets 26 = .ok (.iaload, 1) := by decide +kernel
theorem dX1_meets_27 : decode cX1_meets 27 = .ok (.iconst 1, 1) := by decide +kernel
theorem dX1_meets_28 : decode cX1_meets 28 = .ok (.iadd, 1) := by decide +kernel
theorem dX1_meets_29 : decode cX1_meets 29 = .ok (.iaload, 1) := by decide +kernel
theorem dX1_meets_30 : decode cX1_meets 30 = .ok (.istore 6, 2) := by decide +kernel
theorem dX1_meets_32 : decode cX1_meets 32 = .ok (.aload_n 1, 1) := by decide +kernel
theorem dX1_meets_33 : decode cX1_meets 33 = .ok (.getfield 64, 3) := by decide +kernel
theorem dX1_meets_36 : decode cX1_meets 36 = .ok (.iload_n 2, 1) := by decide +kernel
theorem dX1_meets_37 : decode cX1_meets 37 = .ok (.iaload, 1) := by decide +kernel
theorem dX1_meets_38 : decode cX1_meets 38 = .ok (.istore 7, 2) := by decide +kernel
theorem dX1_meets_40 : decode cX1_meets 40 = .ok (.aload_n 1, 1) := by decide +kernel
theorem dX1_meets_41 : decode cX1_meets 41 = .ok (.getfield 78, 3) := by decide +kernel
theorem dX1_meets_44 : decode cX1_meets 44 = .ok (.iload_n 2, 1) := by decide +kernel
theorem dX1_meets_45 : decode cX1_meets 45 = .ok (.iaload, 1) := by decide +kernel
theorem dX1_meets_46 : decode cX1_meets 46 = .ok (.iload 7, 2) := by decide +kernel
theorem dX1_meets_48 : decode cX1_meets 48 = .ok (.iadd, 1) := by decide +kernel
theorem dX1_meets_49 : decode cX1_meets 49 = .ok (.istore 8, 2) := by decide +kernel
theorem dX1_meets_51 : decode cX1_meets 51 = .ok (.iload 7, 2) := by decide +kernel
theorem dX1_meets_53 : decode cX1_meets 53 = .ok (.iload 5, 2) := by decide +kernel
theorem dX1_meets_55 : decode cX1_meets 55 = .ok (.if_icmp .le 5, 3) := by decide +kernel
theorem dX1_meets_58 : decode cX1_meets 58 = .ok (.iconst 1, 1) := by decide +kernel
theorem dX1_meets_59 : decode cX1_meets 59 = .ok (.ireturn, 1) := by decide +kernel
theorem dX1_meets_60 : decode cX1_meets 60 = .ok (.iload 7, 2) := by decide +kernel
theorem dX1_meets_62 : decode cX1_meets 62 = .ok (.aload 4, 2) := by decide +kernel
theorem dX1_meets_64 : decode cX1_meets 64 = .ok (.iconst 2, 1) := by decide +kernel
theorem dX1_meets_65 : decode cX1_meets 65 = .ok (.iaload, 1) := by decide +kernel
theorem dX1_meets_66 : decode cX1_meets 66 = .ok (.if_icmp .le 5, 3) := by decide +kernel
theorem dX1_meets_69 : decode cX1_meets 69 = .ok (.iconst 2, 1) := by decide +kernel
theorem dX1_meets_70 : decode cX1_meets 70 = .ok (.ireturn, 1) := by decide +kernel
theorem dX1_meets_71 : decode cX1_meets 71 = .ok (.aload_n 1, 1) := by decide +kernel
theorem dX1_meets_72 : decode cX1_meets 72 = .ok (.getfield 81, 3) := by decide +kernel
theorem dX1_meets_75 : decode cX1_meets 75 = .ok (.iload_n 2, 1) := by decide +kernel
theorem dX1_meets_76 : decode cX1_meets 76 = .ok (.iaload, 1) := by decide +kernel
theorem dX1_meets_77 : decode cX1_meets 77 = .ok (.aload 4, 2) := by decide +kernel
theorem dX1_meets_79 : decode cX1_meets 79 = .ok (.iconst 3, 1) := by decide +kernel
theorem dX1_meets_80 : decode cX1_meets 80 = .ok (.iaload, 1) := by decide +kernel
theorem dX1_meets_81 : decode cX1_meets 81 = .ok (.if_icmp .le 5, 3) := by decide +kernel
theorem dX1_meets_84 : decode cX1_meets 84 = .ok (.iconst 3, 1) := by decide +kernel
theorem dX1_meets_85 : decode cX1_meets 85 = .ok (.ireturn, 1) := by decide +kernel
theorem dX1_meets_86 : decode cX1_meets 86 = .ok (.iload 7, 2) := by decide +kernel
theorem dX1_meets_88 : decode cX1_meets 88 = .ok (.iload 6, 2) := by decide +kernel
theorem dX1_meets_90 : decode cX1_meets 90 = .ok (.if_icmp .le 5, 3) := by decide +kernel
theorem dX1_meets_93 : decode cX1_meets 93 = .ok (.iconst 4, 1) := by decide +kernel
theorem dX1_meets_94 : decode cX1_meets 94 = .ok (.ireturn, 1) := by decide +kernel
theorem dX1_meets_95 : decode cX1_meets 95 = .ok (.iload 8, 2) := by decide +kernel
theorem dX1_meets_97 : decode cX1_meets 97 = .ok (.iload 5, 2) := by decide +kernel
theorem dX1_meets_99 : decode cX1_meets 99 = .ok (.aload 4, 2) := by decide +kernel
theorem dX1_meets_101 : decode cX1_meets 101 = .ok (.iconst 2, 1) := by decide +kernel
theorem dX1_meets_102 : decode cX1_meets 102 = .ok (.iaload, 1) := by decide +kernel
theorem dX1_meets_103 : decode cX1_meets 103 = .ok (.iadd, 1) := by decide +kernel
theorem dX1_meets_104 : decode cX1_meets 104 = .ok (.if_icmp .le 5, 3) := by decide +kernel
theorem dX1_meets_107 : decode cX1_meets 107 = .ok (.iconst 5, 1) := by decide +kernel
theorem dX1_meets_108 : decode cX1_meets 108 = .ok (.ireturn, 1) := by decide +kernel
theorem dX1_meets_109 : decode cX1_meets 109 = .ok (.iload 8, 2) := by decide +kernel
theorem dX1_meets_111 : decode cX1_meets 111 = .ok (.iload 6, 2) := by decide +kernel
theorem dX1_meets_113 : decode cX1_meets 113 = .ok (.aload 4, 2) := by decide +kernel
theorem dX1_meets_115 : decode cX1_meets 115 = .ok (.iconst 2, 1) := by decide +kernel
theorem dX1_meets_116 : decode cX1_meets 116 = .ok (.iaload, 1) := by decide +kernel
theorem dX1_meets_117 : decode cX1_meets 117 = .ok (.iadd, 1) := by decide +kernel
theorem dX1_meets_118 : decode cX1_meets 118 = .ok (.if_icmp .le 8, 3) := by decide +kernel
theorem dX1_meets_121 : decode cX1_meets 121 = .ok (.bipush 6, 2) := by decide +kernel
theorem dX1_meets_123 : decode cX1_meets 123 = .ok (.goto 4, 3) := by decide +kernel
theorem dX1_meets_126 : decode cX1_meets 126 = .ok (.iconst 0, 1) := by decide +kernel
theorem dX1_meets_127 : decode cX1_meets 127 = .ok (.ireturn, 1) := by decide +kernel
theorem dX1_ringBears_0 : decode cX1_ringBears 0 = .ok (.aload_n 1, 1) := by decide +kernel
theorem dX1_ringBears_1 : decode cX1_ringBears 1 = .ok (.invokevirtual 67, 3) := by decide +kernel
theorem dX1_ringBears_4 : decode cX1_ringBears 4 = .ok (.aload_n 0, 1) := by decide +kernel
theorem dX1_ringBears_5 : decode cX1_ringBears 5 = .ok (.getfield 11, 3) := by decide +kernel
theorem dX1_ringBears_8 : decode cX1_ringBears 8 = .ok (.iload_n 2, 1) := by decide +kernel
theorem dX1_ringBears_9 : decode cX1_ringBears 9 = .ok (.iaload, 1) := by decide +kernel
theorem dX1_ringBears_10 : decode cX1_ringBears 10 = .ok (.if_icmp .le 5, 3) := by decide +kernel
theorem dX1_ringBears_13 : decode cX1_ringBears 13 = .ok (.iconst 0, 1) := by decide +kernel
theorem dX1_ringBears_14 : decode cX1_ringBears 14 = .ok (.ireturn, 1) := by decide +kernel
theorem dX1_ringBears_15 : decode cX1_ringBears 15 = .ok (.iconst 0, 1) := by decide +kernel
theorem dX1_ringBears_16 : decode cX1_ringBears 16 = .ok (.istore_n 3, 1) := by decide +kernel
theorem dX1_ringBears_17 : decode cX1_ringBears 17 = .ok (.iload_n 3, 1) := by decide +kernel
theorem dX1_ringBears_18 : decode cX1_ringBears 18 = .ok (.aload_n 0, 1) := by decide +kernel
theorem dX1_ringBears_19 : decode cX1_ringBears 19 = .ok (.getfield 46, 3) := by decide +kernel
theorem dX1_ringBears_22 : decode cX1_ringBears 22 = .ok (.if_icmp .ge 21, 3) := by decide +kernel
theorem dX1_ringBears_25 : decode cX1_ringBears 25 = .ok (.aload_n 0, 1) := by decide +kernel
theorem dX1_ringBears_26 : decode cX1_ringBears 26 = .ok (.aload_n 1, 1) := by decide +kernel
theorem dX1_ringBears_27 : decode cX1_ringBears 27 = .ok (.iload_n 3, 1) := by decide +kernel
theorem dX1_ringBears_28 : decode cX1_ringBears 28 = .ok (.iload_n 2, 1) := by decide +kernel
theorem dX1_ringBears_29 : decode cX1_ringBears 29 = .ok (.invokevirtual 71, 3) := by decide +kernel
theorem dX1_ringBears_32 : decode cX1_ringBears 32 = .ok (.ifCond .eq 5, 3) := by decide +kernel
theorem dX1_ringBears_35 : decode cX1_ringBears 35 = .ok (.iconst 1, 1) := by decide +kernel
theorem dX1_ringBears_36 : decode cX1_ringBears 36 = .ok (.ireturn, 1) := by decide +kernel
theorem dX1_ringBears_37 : decode cX1_ringBears 37 = .ok (.iinc 3 1, 3) := by decide +kernel
theorem dX1_ringBears_40 : decode cX1_ringBears 40 = .ok (.goto (-23), 3) := by decide +kernel
theorem dX1_ringBears_43 : decode cX1_ringBears 43 = .ok (.iconst 0, 1) := by decide +kernel
theorem dX1_ringBears_44 : decode cX1_ringBears 44 = .ok (.ireturn, 1) := by decide +kernel
theorem dX1_ringSuits_0 : decode cX1_ringSuits 0 = .ok (.iload_n 3, 1) := by decide +kernel
theorem dX1_ringSuits_1 : decode cX1_ringSuits 1 = .ok (.ifCond .eq 12, 3) := by decide +kernel
theorem dX1_ringSuits_4 : decode cX1_ringSuits 4 = .ok (.aload_n 0, 1) := by decide +kernel
theorem dX1_ringSuits_5 : decode cX1_ringSuits 5 = .ok (.aload_n 1, 1) := by decide +kernel
theorem dX1_ringSuits_6 : decode cX1_ringSuits 6 = .ok (.iload_n 2, 1) := by decide +kernel
theorem dX1_ringSuits_7 : decode cX1_ringSuits 7 = .ok (.invokevirtual 116, 3) := by decide +kernel
theorem dX1_ringSuits_10 : decode cX1_ringSuits 10 = .ok (.goto 21, 3) := by decide +kernel
theorem dX1_ringSuits_13 : decode cX1_ringSuits 13 = .ok (.aload_n 1, 1) := by decide +kernel
theorem dX1_ringSuits_14 : decode cX1_ringSuits 14 = .ok (.invokevirtual 67, 3) := by decide +kernel
theorem dX1_ringSuits_17 : decode cX1_ringSuits 17 = .ok (.aload_n 0, 1) := by decide +kernel
theorem dX1_ringSuits_18 : decode cX1_ringSuits 18 = .ok (.getfield 11, 3) := by decide +kernel
theorem dX1_ringSuits_21 : decode cX1_ringSuits 21 = .ok (.iload_n 2, 1) := by decide +kernel
theorem dX1_ringSuits_22 : decode cX1_ringSuits 22 = .ok (.iaload, 1) := by decide +kernel
theorem dX1_ringSuits_23 : decode cX1_ringSuits 23 = .ok (.if_icmp .gt 7, 3) := by decide +kernel
theorem dX1_ringSuits_26 : decode cX1_ringSuits 26 = .ok (.iconst 1, 1) := by decide +kernel
theorem dX1_ringSuits_27 : decode cX1_ringSuits 27 = .ok (.goto 4, 3) := by decide +kernel
theorem dX1_ringSuits_30 : decode cX1_ringSuits 30 = .ok (.iconst 0, 1) := by decide +kernel
theorem dX1_ringSuits_31 : decode cX1_ringSuits 31 = .ok (.ireturn, 1) := by decide +kernel
theorem dX1_ringTakes_0 : decode cX1_ringTakes 0 = .ok (.aload_n 1, 1) := by decide +kernel
theorem dX1_ringTakes_1 : decode cX1_ringTakes 1 = .ok (.getfield 64, 3) := by decide +kernel
theorem dX1_ringTakes_4 : decode cX1_ringTakes 4 = .ok (.iload_n 2, 1) := by decide +kernel
theorem dX1_ringTakes_5 : decode cX1_ringTakes 5 = .ok (.iaload, 1) := by decide +kernel
theorem dX1_ringTakes_6 : decode cX1_ringTakes 6 = .ok (.aload_n 0, 1) := by decide +kernel
theorem dX1_ringTakes_7 : decode cX1_ringTakes 7 = .ok (.getfield 11, 3) := by decide +kernel
theorem dX1_ringTakes_10 : decode cX1_ringTakes 10 = .ok (.iload_n 3, 1) := by decide +kernel
theorem dX1_ringTakes_11 : decode cX1_ringTakes 11 = .ok (.iaload, 1) := by decide +kernel
theorem dX1_ringTakes_12 : decode cX1_ringTakes 12 = .ok (.if_icmp .gt 7, 3) := by decide +kernel
theorem dX1_ringTakes_15 : decode cX1_ringTakes 15 = .ok (.iconst 1, 1) := by decide +kernel
theorem dX1_ringTakes_16 : decode cX1_ringTakes 16 = .ok (.goto 4, 3) := by decide +kernel
theorem dX1_ringTakes_19 : decode cX1_ringTakes 19 = .ok (.iconst 0, 1) := by decide +kernel
theorem dX1_ringTakes_20 : decode cX1_ringTakes 20 = .ok (.ireturn, 1) := by decide +kernel
theorem dX1_someGateLets_0 : decode cX1_someGateLets 0 = .ok (.iconst 0, 1) := by decide +kernel
theorem dX1_someGateLets_1 : decode cX1_someGateLets 1 = .ok (.istore_n 3, 1) := by decide +kernel
theorem dX1_someGateLets_2 : decode cX1_someGateLets 2 = .ok (.iload_n 3, 1) := by decide +kernel
theorem dX1_someGateLets_3 : decode cX1_someGateLets 3 = .ok (.aload_n 0, 1) := by decide +kernel
theorem dX1_someGateLets_4 : decode cX1_someGateLets 4 = .ok (.getfield 43, 3) := by decide +kernel
theorem dX1_someGateLets_7 : decode cX1_someGateLets 7 = .ok (.if_icmp .ge 32, 3) := by decide +kernel
theorem dX1_someGateLets_10 : decode cX1_someGateLets 10 = .ok (.aload_n 0, 1) := by decide +kernel
theorem dX1_someGateLets_11 : decode cX1_someGateLets 11 = .ok (.getfield 17, 3) := by decide +kernel
theorem dX1_someGateLets_14 : decode cX1_someGateLets 14 = .ok (.iload_n 3, 1) := by decide +kernel
theorem dX1_someGateLets_15 : decode cX1_someGateLets 15 = .ok (.aaload, 1) := by decide +kernel
theorem dX1_someGateLets_16 : decode cX1_someGateLets 16 = .ok (.iconst 0, 1) := by decide +kernel
theorem dX1_someGateLets_17 : decode cX1_someGateLets 17 = .ok (.iaload, 1) := by decide +kernel
theorem dX1_someGateLets_18 : decode cX1_someGateLets 18 = .ok (.iload_n 2, 1) := by decide +kernel
theorem dX1_someGateLets_19 : decode cX1_someGateLets 19 = .ok (.if_icmp .ne 14, 3) := by decide +kernel
theorem dX1_someGateLets_22 : decode cX1_someGateLets 22 = .ok (.aload_n 0, 1) := by decide +kernel
theorem dX1_someGateLets_23 : decode cX1_someGateLets 23 = .ok (.aload_n 1, 1) := by decide +kernel
theorem dX1_someGateLets_24 : decode cX1_someGateLets 24 = .ok (.iload_n 3, 1) := by decide +kernel
theorem dX1_someGateLets_25 : decode cX1_someGateLets 25 = .ok (.invokevirtual 119, 3) := by decide +kernel
theorem dX1_someGateLets_28 : decode cX1_someGateLets 28 = .ok (.ifCond .eq 5, 3) := by decide +kernel
theorem dX1_someGateLets_31 : decode cX1_someGateLets 31 = .ok (.iconst 1, 1) := by decide +kernel
theorem dX1_someGateLets_32 : decode cX1_someGateLets 32 = .ok (.ireturn, 1) := by decide +kernel
theorem dX1_someGateLets_33 : decode cX1_someGateLets 33 = .ok (.iinc 3 1, 3) := by decide +kernel
theorem dX1_someGateLets_36 : decode cX1_someGateLets 36 = .ok (.goto (-34), 3) := by decide +kernel
theorem dX1_someGateLets_39 : decode cX1_someGateLets 39 = .ok (.iconst 0, 1) := by decide +kernel
theorem dX1_someGateLets_40 : decode cX1_someGateLets 40 = .ok (.ireturn, 1) := by decide +kernel
theorem dX1_thing_0 : decode cX1_thing 0 = .ok (.iload_n 2, 1) := by decide +kernel
theorem dX1_thing_1 : decode cX1_thing 1 = .ok (.ifCond .eq 12, 3) := by decide +kernel
theorem dX1_thing_4 : decode cX1_thing 4 = .ok (.aload_n 0, 1) := by decide +kernel
theorem dX1_thing_5 : decode cX1_thing 5 = .ok (.getfield 35, 3) := by decide +kernel
theorem dX1_thing_8 : decode cX1_thing 8 = .ok (.iload_n 1, 1) := by decide +kernel
theorem dX1_thing_9 : decode cX1_thing 9 = .ok (.aaload, 1) := by decide +kernel
theorem dX1_thing_10 : decode cX1_thing 10 = .ok (.goto 9, 3) := by decide +kernel
theorem dX1_thing_13 : decode cX1_thing 13 = .ok (.aload_n 0, 1) := by decide +kernel
theorem dX1_thing_14 : decode cX1_thing 14 = .ok (.getfield 31, 3) := by decide +kernel
theorem dX1_thing_17 : decode cX1_thing 17 = .ok (.iload_n 1, 1) := by decide +kernel
theorem dX1_thing_18 : decode cX1_thing 18 = .ok (.aaload, 1) := by decide +kernel
theorem dX1_thing_19 : decode cX1_thing 19 = .ok (.areturn, 1) := by decide +kernel
theorem dX3_allBear_0 : decode cX3_allBear 0 = .ok (.iload_n 2, 1) := by decide +kernel
theorem dX3_allBear_1 : decode cX3_allBear 1 = .ok (.iload_n 3, 1) := by decide +kernel
theorem dX3_allBear_2 : decode cX3_allBear 2 = .ok (.invokestatic 83, 3) := by decide +kernel
theorem dX3_allBear_5 : decode cX3_allBear 5 = .ok (.istore 4, 2) := by decide +kernel
theorem dX3_allBear_7 : decode cX3_allBear 7 = .ok (.iload 4, 2) := by decide +kernel
theorem dX3_allBear_9 : decode cX3_allBear 9 = .ok (.iload_n 2, 1) := by decide +kernel
theorem dX3_allBear_10 : decode cX3_allBear 10 = .ok (.iload_n 3, 1) := by decide +kernel
theorem dX3_allBear_11 : decode cX3_allBear 11 = .ok (.invokestatic 89, 3) := by decide +kernel
theorem dX3_allBear_14 : decode cX3_allBear 14 = .ok (.if_icmp .gt 24, 3) := by decide +kernel
theorem dX3_allBear_17 : decode cX3_allBear 17 = .ok (.aload_n 0, 1) := by decide +kernel
theorem dX3_allBear_18 : decode cX3_allBear 18 = .ok (.getfield 9, 3) := by decide +kernel
theorem dX3_allBear_21 : decode cX3_allBear 21 = .ok (.aload_n 1, 1) := by decide +kernel
theorem dX3_allBear_22 : decode cX3_allBear 22 = .ok (.iload 4, 2) := by decide +kernel
theorem dX3_allBear_24 : decode cX3_allBear 24 = .ok (.invokevirtual 92, 3) := by decide +kernel
theorem dX3_allBear_27 : decode cX3_allBear 27 = .ok (.ifCond .ne 5, 3) := by decide +kernel
theorem dX3_allBear_30 : decode cX3_allBear 30 = .ok (.iconst 0, 1) := by decide +kernel
theorem dX3_allBear_31 : decode cX3_allBear 31 = .ok (.ireturn, 1) := by decide +kernel
theorem dX3_allBear_32 : decode cX3_allBear 32 = .ok (.iinc 4 1, 3) := by decide +kernel
theorem dX3_allBear_35 : decode cX3_allBear 35 = .ok (.goto (-28), 3) := by decide +kernel
theorem dX3_allBear_38 : decode cX3_allBear 38 = .ok (.iconst 1, 1) := by decide +kernel
theorem dX3_allBear_39 : decode cX3_allBear 39 = .ok (.ireturn, 1) := by decide +kernel
theorem dX3_costOf_0 : decode cX3_costOf 0 = .ok (.aload_n 1, 1) := by decide +kernel
theorem dX3_costOf_1 : decode cX3_costOf 1 = .ok (.iconst 1, 1) := by decide +kernel
theorem dX3_costOf_2 : decode cX3_costOf 2 = .ok (.iaload, 1) := by decide +kernel
theorem dX3_costOf_3 : decode cX3_costOf 3 = .ok (.istore_n 2, 1) := by decide +kernel
theorem dX3_costOf_4 : decode cX3_costOf 4 = .ok (.aload_n 1, 1) := by decide +kernel
theorem dX3_costOf_5 : decode cX3_costOf 5 = .ok (.iconst 3, 1) := by decide +kernel
theorem dX3_costOf_6 : decode cX3_costOf 6 = .ok (.iaload, 1) := by decide +kernel
theorem dX3_costOf_7 : decode cX3_costOf 7 = .ok (.istore_n 3, 1) := by decide +kernel
theorem dX3_costOf_8 : decode cX3_costOf 8 = .ok (.aload_n 1, 1) := by decide +kernel
theorem dX3_costOf_9 : decode cX3_costOf 9 = .ok (.iconst 2, 1) := by decide +kernel
theorem dX3_costOf_10 : decode cX3_costOf 10 = .ok (.iaload, 1) := by decide +kernel
theorem dX3_costOf_11 : decode cX3_costOf 11 = .ok (.istore 4, 2) := by decide +kernel
theorem dX3_costOf_13 : decode cX3_costOf 13 = .ok (.aload_n 0, 1) := by decide +kernel
theorem dX3_costOf_14 : decode cX3_costOf 14 = .ok (.iconst (-1), 1) := by decide +kernel
theorem dX3_costOf_15 : decode cX3_costOf 15 = .ok (.putfield 77, 3) := by decide +kernel
theorem dX3_costOf_18 : decode cX3_costOf 18 = .ok (.iload_n 2, 1) := by decide +kernel
theorem dX3_costOf_19 : decode cX3_costOf 19 = .ok (.iload_n 3, 1) := by decide +kernel
theorem dX3_costOf_20 : decode cX3_costOf 20 = .ok (.if_icmp .ne 12, 3) := by decide +kernel
theorem dX3_costOf_23 : decode cX3_costOf 23 = .ok (.iload 4, 2) := by decide +kernel
theorem dX3_costOf_25 : decode cX3_costOf 25 = .ok (.aload_n 1, 1) := by decide +kernel
theorem dX3_costOf_26 : decode cX3_costOf 26 = .ok (.iconst 4, 1) := by decide +kernel
theorem dX3_costOf_27 : decode cX3_costOf 27 = .ok (.iaload, 1) := by decide +kernel
theorem dX3_costOf_28 : decode cX3_costOf 28 = .ok (.invokestatic 96, 3) := by decide +kernel
theorem dX3_costOf_31 : decode cX3_costOf 31 = .ok (.ireturn, 1) := by decide +kernel
theorem dX3_costOf_32 : decode cX3_costOf 32 = .ok (.iload_n 3, 1) := by decide +kernel
theorem dX3_costOf_33 : decode cX3_costOf 33 = .ok (.iload_n 2, 1) := by decide +kernel
theorem dX3_costOf_34 : decode cX3_costOf 34 = .ok (.if_icmp .le 7, 3) := by decide +kernel
theorem dX3_costOf_37 : decode cX3_costOf 37 = .ok (.iconst 1, 1) := by decide +kernel
theorem dX3_costOf_38 : decode cX3_costOf 38 = .ok (.goto 4, 3) := by decide +kernel
theorem dX3_costOf_41 : decode cX3_costOf 41 = .ok (.iconst (-1), 1) := by decide +kernel
theorem dX3_costOf_42 : decode cX3_costOf 42 = .ok (.istore 5, 2) := by decide +kernel
theorem dX3_costOf_44 : decode cX3_costOf 44 = .ok (.iload 5, 2) := by decide +kernel
theorem dX3_costOf_46 : decode cX3_costOf 46 = .ok (.ifCond .le 7, 3) := by decide +kernel
theorem dX3_costOf_49 : decode cX3_costOf 49 = .ok (.iload_n 2, 1) := by decide +kernel
theorem dX3_costOf_50 : decode cX3_costOf 50 = .ok (.goto 6, 3) := by decide +kernel
theorem dX3_costOf_53 : decode cX3_costOf 53 = .ok (.iload_n 2, 1) := by decide +kernel
theorem dX3_costOf_54 : decode cX3_costOf 54 = .ok (.iconst 1, 1) := by decide +kernel
theorem dX3_costOf_55 : decode cX3_costOf 55 = .ok (.isub, 1) := by decide +kernel
theorem dX3_costOf_56 : decode cX3_costOf 56 = .ok (.istore 6, 2) := by decide +kernel
theorem dX3_costOf_58 : decode cX3_costOf 58 = .ok (.iload 5, 2) := by decide +kernel
theorem dX3_costOf_60 : decode cX3_costOf 60 = .ok (.ifCond .le 9, 3) := by decide +kernel
theorem dX3_costOf_63 : decode cX3_costOf 63 = .ok (.iload_n 3, 1) := by decide +kernel
theorem dX3_costOf_64 : decode cX3_costOf 64 = .ok (.iconst 1, 1) := by decide +kernel
theorem dX3_costOf_65 : decode cX3_costOf 65 = .ok (.isub, 1) := by decide +kernel
theorem dX3_costOf_66 : decode cX3_costOf 66 = .ok (.goto 4, 3) := by decide +kernel
theorem dX3_costOf_69 : decode cX3_costOf 69 = .ok (.iload_n 3, 1) := by decide +kernel
theorem dX3_costOf_70 : decode cX3_costOf 70 = .ok (.istore 7, 2) := by decide +kernel
theorem dX3_costOf_72 : decode cX3_costOf 72 = .ok (.aload_n 0, 1) := by decide +kernel
theorem dX3_costOf_73 : decode cX3_costOf 73 = .ok (.iload 7, 2) := by decide +kernel
theorem dX3_costOf_75 : decode cX3_costOf 75 = .ok (.aload_n 1, 1) := by decide +kernel
theorem dX3_costOf_76 : decode cX3_costOf 76 = .ok (.iconst 4, 1) := by decide +kernel
theorem dX3_costOf_77 : decode cX3_costOf 77 = .ok (.iaload, 1) := by decide +kernel
theorem dX3_costOf_78 : decode cX3_costOf 78 = .ok (.invokevirtual 99, 3) := by decide +kernel
theorem dX3_costOf_81 : decode cX3_costOf 81 = .ok (.iconst 1, 1) := by decide +kernel
theorem dX3_costOf_82 : decode cX3_costOf 82 = .ok (.istore 8, 2) := by decide +kernel
theorem dX3_costOf_84 : decode cX3_costOf 84 = .ok (.iload 8, 2) := by decide +kernel
theorem dX3_costOf_86 : decode cX3_costOf 86 = .ok (.iload 7, 2) := by decide +kernel
theorem dX3_costOf_88 : decode cX3_costOf 88 = .ok (.iload 6, 2) := by decide +kernel
theorem dX3_costOf_90 : decode cX3_costOf 90 = .ok (.isub, 1) := by decide +kernel
theorem dX3_costOf_91 : decode cX3_costOf 91 = .ok (.iload 5, 2) := by decide +kernel
theorem dX3_costOf_93 : decode cX3_costOf 93 = .ok (.imul, 1) := by decide +kernel
theorem dX3_costOf_94 : decode cX3_costOf 94 = .ok (.if_icmp .gt 31, 3) := by decide +kernel
theorem dX3_costOf_97 : decode cX3_costOf 97 = .ok (.aload_n 0, 1) := by decide +kernel
theorem dX3_costOf_98 : decode cX3_costOf 98 = .ok (.iload 7, 2) := by decide +kernel
theorem dX3_costOf_100 : decode cX3_costOf 100 = .ok (.iload 8, 2) := by decide +kernel
theorem dX3_costOf_102 : decode cX3_costOf 102 = .ok (.iload 5, 2) := by decide +kernel
theorem dX3_costOf_104 : decode cX3_costOf 104 = .ok (.imul, 1) := by decide +kernel
theorem dX3_costOf_105 : decode cX3_costOf 105 = .ok (.isub, 1) := by decide +kernel
theorem dX3_costOf_106 : decode cX3_costOf 106 = .ok (.iload 7, 2) := by decide +kernel
theorem dX3_costOf_108 : decode cX3_costOf 108 = .ok (.iload 8, 2) := by decide +kernel
theorem dX3_costOf_110 : decode cX3_costOf 110 = .ok (.iconst 1, 1) := by decide +kernel
theorem dX3_costOf_111 : decode cX3_costOf 111 = .ok (.isub, 1) := by decide +kernel
theorem dX3_costOf_112 : decode cX3_costOf 112 = .ok (.iload 5, 2) := by decide +kernel
theorem dX3_costOf_114 : decode cX3_costOf 114 = .ok (.imul, 1) := by decide +kernel
theorem dX3_costOf_115 : decode cX3_costOf 115 = .ok (.isub, 1) := by decide +kernel
theorem dX3_costOf_116 : decode cX3_costOf 116 = .ok (.invokevirtual 103, 3) := by decide +kernel
theorem dX3_costOf_119 : decode cX3_costOf 119 = .ok (.iinc 8 1, 3) := by decide +kernel
theorem dX3_costOf_122 : decode cX3_costOf 122 = .ok (.goto (-38), 3) := by decide +kernel
theorem dX3_costOf_125 : decode cX3_costOf 125 = .ok (.aload_n 0, 1) := by decide +kernel
theorem dX3_costOf_126 : decode cX3_costOf 126 = .ok (.aload_n 0, 1) := by decide +kernel
theorem dX3_costOf_127 : decode cX3_costOf 127 = .ok (.iload 6, 2) := by decide +kernel
theorem dX3_costOf_129 : decode cX3_costOf 129 = .ok (.iload 4, 2) := by decide +kernel
theorem dX3_costOf_131 : decode cX3_costOf 131 = .ok (.invokevirtual 106, 3) := by decide +kernel
theorem dX3_costOf_134 : decode cX3_costOf 134 = .ok (.putfield 77, 3) := by decide +kernel
theorem dX3_costOf_137 : decode cX3_costOf 137 = .ok (.aload_n 0, 1) := by decide +kernel
theorem dX3_costOf_138 : decode cX3_costOf 138 = .ok (.getfield 109, 3) := by decide +kernel
theorem dX3_costOf_141 : decode cX3_costOf 141 = .ok (.ireturn, 1) := by decide +kernel
theorem dX3_firstBest_0 : decode cX3_firstBest 0 = .ok (.iconst (-1), 1) := by decide +kernel
theorem dX3_firstBest_1 : decode cX3_firstBest 1 = .ok (.istore_n 3, 1) := by decide +kernel
theorem dX3_firstBest_2 : decode cX3_firstBest 2 = .ok (.aload_n 0, 1) := by decide +kernel
theorem dX3_firstBest_3 : decode cX3_firstBest 3 = .ok (.ldc 59, 2) := by decide +kernel
theorem dX3_firstBest_5 : decode cX3_firstBest 5 = .ok (.putfield 109, 3) := by decide +kernel
theorem dX3_firstBest_8 : decode cX3_firstBest 8 = .ok (.iconst 0, 1) := by decide +kernel
theorem dX3_firstBest_9 : decode cX3_firstBest 9 = .ok (.istore 4, 2) := by decide +kernel
theorem dX3_firstBest_11 : decode cX3_firstBest 11 = .ok (.iload 4, 2) := by decide +kernel
theorem dX3_firstBest_13 : decode cX3_firstBest 13 = .ok (.aload_n 0, 1) := by decide +kernel
theorem dX3_firstBest_14 : decode cX3_firstBest 14 = .ok (.getfield 9, 3) := by decide +kernel
theorem dX3_firstBest_17 : decode cX3_firstBest 17 = .ok (.getfield 112, 3) := by decide +kernel
theorem dX3_firstBest_20 : decode cX3_firstBest 20 = .ok (.if_icmp .ge 81, 3) := by decide +kernel
theorem dX3_firstBest_23 : decode cX3_firstBest 23 = .ok (.aload_n 0, 1) := by decide +kernel
theorem dX3_firstBest_24 : decode cX3_firstBest 24 = .ok (.getfield 9, 3) := by decide +kernel
theorem dX3_firstBest_27 : decode cX3_firstBest 27 = .ok (.getfield 123, 3) := by decide +kernel
theorem dX3_firstBest_30 : decode cX3_firstBest 30 = .ok (.iload 4, 2) := by decide +kernel
theorem dX3_firstBest_32 : decode cX3_firstBest 32 = .ok (.aaload, 1) := by decide +kernel
theorem dX3_firstBest_33 : decode cX3_firstBest 33 = .ok (.iconst 0, 1) := by decide +kernel
theorem dX3_firstBest_34 : decode cX3_firstBest 34 = .ok (.iaload, 1) := by decide +kernel
theorem dX3_firstBest_35 : decode cX3_firstBest 35 = .ok (.iload_n 1, 1) := by decide +kernel
theorem dX3_firstBest_36 : decode cX3_firstBest 36 = .ok (.if_icmp .ne 59, 3) := by decide +kernel
theorem dX3_firstBest_39 : decode cX3_firstBest 39 = .ok (.aload_n 0, 1) := by decide +kernel
theorem dX3_firstBest_40 : decode cX3_firstBest 40 = .ok (.getfield 21, 3) := by decide +kernel
theorem dX3_firstBest_43 : decode cX3_firstBest 43 = .ok (.iload 4, 2) := by decide +kernel
theorem dX3_firstBest_45 : decode cX3_firstBest 45 = .ok (.iaload, 1) := by decide +kernel
theorem dX3_firstBest_46 : decode cX3_firstBest 46 = .ok (.ldc 59, 2) := by decide +kernel
theorem dX3_firstBest_48 : decode cX3_firstBest 48 = .ok (.if_icmp .ge 47, 3) := by decide +kernel
theorem dX3_firstBest_51 : decode cX3_firstBest 51 = .ok (.iload_n 2, 1) := by decide +kernel
theorem dX3_firstBest_52 : decode cX3_firstBest 52 = .ok (.aload_n 0, 1) := by decide +kernel
theorem dX3_firstBest_53 : decode cX3_firstBest 53 = .ok (.getfield 9, 3) := by decide +kernel
theorem dX3_firstBest_56 : decode cX3_firstBest 56 = .ok (.getfield 123, 3) := by decide +kernel
theorem dX3_firstBest_59 : decode cX3_firstBest 59 = .ok (.iload 4, 2) := by decide +kernel
theorem dX3_firstBest_61 : decode cX3_firstBest 61 = .ok (.aaload, 1) := by decide +kernel
theorem dX3_firstBest_62 : decode cX3_firstBest 62 = .ok (.iconst 1, 1) := by decide +kernel
theorem dX3_firstBest_63 : decode cX3_firstBest 63 = .ok (.iaload, 1) := by decide +kernel
theorem dX3_firstBest_64 : decode cX3_firstBest 64 = .ok (.invokestatic 96, 3) := by decide +kernel
theorem dX3_firstBest_67 : decode cX3_firstBest 67 = .ok (.aload_n 0, 1) := by decide +kernel
theorem dX3_firstBest_68 : decode cX3_firstBest 68 = .ok (.getfield 21, 3) := by decide +kernel
theorem dX3_firstBest_71 : decode cX3_firstBest 71 = .ok (.iload 4, 2) := by decide +kernel
theorem dX3_firstBest_73 : decode cX3_firstBest 73 = .ok (.iaload, 1) := by decide +kernel
theorem dX3_firstBest_74 : decode cX3_firstBest 74 = .ok (.iadd, 1) := by decide +kernel
theorem dX3_firstBest_75 : decode cX3_firstBest 75 = .ok (.istore 5, 2) := by decide +kernel
theorem dX3_firstBest_77 : decode cX3_firstBest 77 = .ok (.iload 5, 2) := by decide +kernel
theorem dX3_firstBest_79 : decode cX3_firstBest 79 = .ok (.aload_n 0, 1) := by decide +kernel
theorem dX3_firstBest_80 : decode cX3_firstBest 80 = .ok (.getfield 109, 3) := by decide +kernel
theorem dX3_firstBest_83 : decode cX3_firstBest 83 = .ok (.if_icmp .ge 12, 3) := by decide +kernel
theorem dX3_firstBest_86 : decode cX3_firstBest 86 = .ok (.iload 4, 2) := by decide +kernel
theorem dX3_firstBest_88 : decode cX3_firstBest 88 = .ok (.istore_n 3, 1) := by decide +kernel
theorem dX3_firstBest_89 : decode cX3_firstBest 89 = .ok (.aload_n 0, 1) := by decide +kernel
theorem dX3_firstBest_90 : decode cX3_firstBest 90 = .ok (.iload 5, 2) := by decide +kernel
theorem dX3_firstBest_92 : decode cX3_firstBest 92 = .ok (.putfield 109, 3) := by decide +kernel
theorem dX3_firstBest_95 : decode cX3_firstBest 95 = .ok (.iinc 4 1, 3) := by decide +kernel
theorem dX3_firstBest_98 : decode cX3_firstBest 98 = .ok (.goto (-87), 3) := by decide +kernel
theorem dX3_firstBest_101 : decode cX3_firstBest 101 = .ok (.iload_n 3, 1) := by decide +kernel
theorem dX3_firstBest_102 : decode cX3_firstBest 102 = .ok (.ireturn, 1) := by decide +kernel
theorem dX3_init_0 : decode cX3_init 0 = .ok (.aload_n 0, 1) := by decide +kernel
theorem dX3_init_1 : decode cX3_init 1 = .ok (.invokespecial 3, 3) := by decide +kernel
theorem dX3_init_4 : decode cX3_init 4 = .ok (.aload_n 0, 1) := by decide +kernel
theorem dX3_init_5 : decode cX3_init 5 = .ok (.aload_n 1, 1) := by decide +kernel
theorem dX3_init_6 : decode cX3_init 6 = .ok (.putfield 9, 3) := by decide +kernel
theorem dX3_init_9 : decode cX3_init 9 = .ok (.aload_n 0, 1) := by decide +kernel
theorem dX3_init_10 : decode cX3_init 10 = .ok (.bipush 11, 2) := by decide +kernel
theorem dX3_init_12 : decode cX3_init 12 = .ok (.newarray .int, 2) := by decide +kernel
theorem dX3_init_14 : decode cX3_init 14 = .ok (.putfield 17, 3) := by decide +kernel
theorem dX3_init_17 : decode cX3_init 17 = .ok (.aload_n 0, 1) := by decide +kernel
theorem dX3_init_18 : decode cX3_init 18 = .ok (.bipush 11, 2) := by decide +kernel
theorem dX3_init_20 : decode cX3_init 20 = .ok (.newarray .int, 2) := by decide +kernel
theorem dX3_init_22 : decode cX3_init 22 = .ok (.putfield 21, 3) := by decide +kernel
theorem dX3_init_25 : decode cX3_init 25 = .ok (.aload_n 0, 1) := by decide +kernel
theorem dX3_init_26 : decode cX3_init 26 = .ok (.bipush 11, 2) := by decide +kernel
theorem dX3_init_28 : decode cX3_init 28 = .ok (.newarray .int, 2) := by decide +kernel
theorem dX3_init_30 : decode cX3_init 30 = .ok (.putfield 24, 3) := by decide +kernel
theorem dX3_init_33 : decode cX3_init 33 = .ok (.return_, 1) := by decide +kernel
theorem dX3_keepIfBest_0 : decode cX3_keepIfBest 0 = .ok (.iload_n 3, 1) := by decide +kernel
theorem dX3_keepIfBest_1 : decode cX3_keepIfBest 1 = .ok (.sipush 1000, 3) := by decide +kernel
theorem dX3_keepIfBest_4 : decode cX3_keepIfBest 4 = .ok (.idiv, 1) := by decide +kernel
theorem dX3_keepIfBest_5 : decode cX3_keepIfBest 5 = .ok (.aload_n 1, 1) := by decide +kernel
theorem dX3_keepIfBest_6 : decode cX3_keepIfBest 6 = .ok (.getfield 37, 3) := by decide +kernel
theorem dX3_keepIfBest_9 : decode cX3_keepIfBest 9 = .ok (.imul, 1) := by decide +kernel
theorem dX3_keepIfBest_10 : decode cX3_keepIfBest 10 = .ok (.istore 5, 2) := by decide +kernel
theorem dX3_keepIfBest_12 : decode cX3_keepIfBest 12 = .ok (.iload_n 3, 1) := by decide +kernel
theorem dX3_keepIfBest_13 : decode cX3_keepIfBest 13 = .ok (.sipush 1000, 3) := by decide +kernel
theorem dX3_keepIfBest_16 : decode cX3_keepIfBest 16 = .ok (.irem, 1) := by decide +kernel
theorem dX3_keepIfBest_17 : decode cX3_keepIfBest 17 = .ok (.istore 6, 2) := by decide +kernel
theorem dX3_keepIfBest_19 : decode cX3_keepIfBest 19 = .ok (.iload_n 3, 1) := by decide +kernel
theorem dX3_keepIfBest_20 : decode cX3_keepIfBest 20 = .ok (.ldc 59, 2) := by decide +kernel
theorem dX3_keepIfBest_22 : decode cX3_keepIfBest 22 = .ok (.if_icmp .ge 15, 3) := by decide +kernel
theorem dX3_keepIfBest_25 : decode cX3_keepIfBest 25 = .ok (.aload 4, 2) := by decide +kernel
theorem dX3_keepIfBest_27 : decode cX3_keepIfBest 27 = .ok (.iload 5, 2) := by decide +kernel
theorem dX3_keepIfBest_29 : decode cX3_keepIfBest 29 = .ok (.iload 6, 2) := by decide +kernel
theorem dX3_keepIfBest_31 : decode cX3_keepIfBest 31 = .ok (.invokevirtual 60, 3) := by decide +kernel
theorem dX3_keepIfBest_34 : decode cX3_keepIfBest 34 = .ok (.ifCond .ne 4, 3) := by decide +kernel
theorem dX3_keepIfBest_37 : decode cX3_keepIfBest 37 = .ok (.return_, 1) := by decide +kernel
theorem dX3_keepIfBest_38 : decode cX3_keepIfBest 38 = .ok (.aload 4, 2) := by decide +kernel
theorem dX3_keepIfBest_40 : decode cX3_keepIfBest 40 = .ok (.iconst 1, 1) := by decide +kernel
theorem dX3_keepIfBest_41 : decode cX3_keepIfBest 41 = .ok (.putfield 27, 3) := by decide +kernel
theorem dX3_keepIfBest_44 : decode cX3_keepIfBest 44 = .ok (.aload 4, 2) := by decide +kernel
theorem dX3_keepIfBest_46 : decode cX3_keepIfBest 46 = .ok (.iload_n 2, 1) := by decide +kernel
theorem dX3_keepIfBest_47 : decode cX3_keepIfBest 47 = .ok (.putfield 64, 3) := by decide +kernel
theorem dX3_keepIfBest_50 : decode cX3_keepIfBest 50 = .ok (.aload 4, 2) := by decide +kernel
theorem dX3_keepIfBest_52 : decode cX3_keepIfBest 52 = .ok (.iload 5, 2) := by decide +kernel
theorem dX3_keepIfBest_54 : decode cX3_keepIfBest 54 = .ok (.putfield 67, 3) := by decide +kernel
theorem dX3_keepIfBest_57 : decode cX3_keepIfBest 57 = .ok (.aload 4, 2) := by decide +kernel
theorem dX3_keepIfBest_59 : decode cX3_keepIfBest 59 = .ok (.iload 6, 2) := by decide +kernel
theorem dX3_keepIfBest_61 : decode cX3_keepIfBest 61 = .ok (.putfield 70, 3) := by decide +kernel
theorem dX3_keepIfBest_64 : decode cX3_keepIfBest 64 = .ok (.aload 4, 2) := by decide +kernel
theorem dX3_keepIfBest_66 : decode cX3_keepIfBest 66 = .ok (.aload_n 1, 1) := by decide +kernel
theorem dX3_keepIfBest_67 : decode cX3_keepIfBest 67 = .ok (.getfield 37, 3) := by decide +kernel
theorem dX3_keepIfBest_70 : decode cX3_keepIfBest 70 = .ok (.putfield 73, 3) := by decide +kernel
theorem dX3_keepIfBest_73 : decode cX3_keepIfBest 73 = .ok (.aload 4, 2) := by decide +kernel
theorem dX3_keepIfBest_75 : decode cX3_keepIfBest 75 = .ok (.iconst 0, 1) := by decide +kernel
theorem dX3_keepIfBest_76 : decode cX3_keepIfBest 76 = .ok (.putfield 74, 3) := by decide +kernel
theorem dX3_keepIfBest_79 : decode cX3_keepIfBest 79 = .ok (.aload_n 0, 1) := by decide +kernel
theorem dX3_keepIfBest_80 : decode cX3_keepIfBest 80 = .ok (.getfield 77, 3) := by decide +kernel
theorem dX3_keepIfBest_83 : decode cX3_keepIfBest 83 = .ok (.istore 7, 2) := by decide +kernel
theorem dX3_keepIfBest_85 : decode cX3_keepIfBest 85 = .ok (.iload 7, 2) := by decide +kernel
theorem dX3_keepIfBest_87 : decode cX3_keepIfBest 87 = .ok (.iconst (-1), 1) := by decide +kernel
theorem dX3_keepIfBest_88 : decode cX3_keepIfBest 88 = .ok (.if_icmp .eq 53, 3) := by decide +kernel
theorem dX3_keepIfBest_91 : decode cX3_keepIfBest 91 = .ok (.aload 4, 2) := by decide +kernel
theorem dX3_keepIfBest_93 : decode cX3_keepIfBest 93 = .ok (.getfield 74, 3) := by decide +kernel
theorem dX3_keepIfBest_96 : decode cX3_keepIfBest 96 = .ok (.aload 4, 2) := by decide +kernel
theorem dX3_keepIfBest_98 : decode cX3_keepIfBest 98 = .ok (.getfield 80, 3) := by decide +kernel
theorem dX3_keepIfBest_101 : decode cX3_keepIfBest 101 = .ok (.arraylength, 1) := by decide +kernel
theorem dX3_keepIfBest_102 : decode cX3_keepIfBest 102 = .ok (.if_icmp .ge 39, 3) := by decide +kernel
theorem dX3_keepIfBest_105 : decode cX3_keepIfBest 105 = .ok (.aload 4, 2) := by decide +kernel
theorem dX3_keepIfBest_107 : decode cX3_keepIfBest 107 = .ok (.getfield 80, 3) := by decide +kernel
theorem dX3_keepIfBest_110 : decode cX3_keepIfBest 110 = .ok (.aload 4, 2) := by decide +kernel
theorem dX3_keepIfBest_112 : decode cX3_keepIfBest 112 = .ok (.getfield 74, 3) := by decide +kernel
theorem dX3_keepIfBest_115 : decode cX3_keepIfBest 115 = .ok (.iload 7, 2) := by decide +kernel
theorem dX3_keepIfBest_117 : decode cX3_keepIfBest 117 = .ok (.iastore, 1) := by decide +kernel
theorem dX3_keepIfBest_118 : decode cX3_keepIfBest 118 = .ok (.aload 4, 2) := by decide +kernel
theorem dX3_keepIfBest_120 : decode cX3_keepIfBest 120 = .ok (.dup, 1) := by decide +kernel
theorem dX3_keepIfBest_121 : decode cX3_keepIfBest 121 = .ok (.getfield 74, 3) := by decide +kernel
theorem dX3_keepIfBest_124 : decode cX3_keepIfBest 124 = .ok (.iconst 1, 1) := by decide +kernel
theorem dX3_keepIfBest_125 : decode cX3_keepIfBest 125 = .ok (.iadd, 1) := by decide +kernel
theorem dX3_keepIfBest_126 : decode cX3_keepIfBest 126 = .ok (.putfield 74, 3) := by decide +kernel
theorem dX3_keepIfBest_129 : decode cX3_keepIfBest 129 = .ok (.aload_n 0, 1) := by decide +kernel
theorem dX3_keepIfBest_130 : decode cX3_keepIfBest 130 = .ok (.getfield 24, 3) := by decide +kernel
theorem dX3_keepIfBest_133 : decode cX3_keepIfBest 133 = .ok (.iload 7, 2) := by decide +kernel
theorem dX3_keepIfBest_135 : decode cX3_keepIfBest 135 = .ok (.iaload, 1) := by decide +kernel
theorem dX3_keepIfBest_136 : decode cX3_keepIfBest 136 = .ok (.istore 7, 2) := by decide +kernel
theorem dX3_keepIfBest_138 : decode cX3_keepIfBest 138 = .ok (.goto (-53), 3) := by decide +kernel
theorem dX3_keepIfBest_141 : decode cX3_keepIfBest 141 = .ok (.return_, 1) := by decide +kernel
theorem dX3_priceGates_0 : decode cX3_priceGates 0 = .ok (.iconst 0, 1) := by decide +kernel
theorem dX3_priceGates_1 : decode cX3_priceGates 1 = .ok (.istore_n 2, 1) := by decide +kernel
theorem dX3_priceGates_2 : decode cX3_priceGates 2 = .ok (.iload_n 2, 1) := by decide +kernel
theorem dX3_priceGates_3 : decode cX3_priceGates 3 = .ok (.aload_n 0, 1) := by decide +kernel
theorem dX3_priceGates_4 : decode cX3_priceGates 4 = .ok (.getfield 9, 3) := by decide +kernel
theorem dX3_priceGates_7 : decode cX3_priceGates 7 = .ok (.getfield 112, 3) := by decide +kernel
theorem dX3_priceGates_10 : decode cX3_priceGates 10 = .ok (.if_icmp .ge 57, 3) := by decide +kernel
theorem dX3_priceGates_13 : decode cX3_priceGates 13 = .ok (.aload_n 0, 1) := by decide +kernel
theorem dX3_priceGates_14 : decode cX3_priceGates 14 = .ok (.getfield 9, 3) := by decide +kernel
theorem dX3_priceGates_17 : decode cX3_priceGates 17 = .ok (.aload_n 1, 1) := by decide +kernel
theorem dX3_priceGates_18 : decode cX3_priceGates 18 = .ok (.iload_n 2, 1) := by decide +kernel
theorem dX3_priceGates_19 : decode cX3_priceGates 19 = .ok (.invokevirtual 113, 3) := by decide +kernel
theorem dX3_priceGates_22 : decode cX3_priceGates 22 = .ok (.istore_n 3, 1) := by decide +kernel
theorem dX3_priceGates_23 : decode cX3_priceGates 23 = .ok (.aload_n 0, 1) := by decide +kernel
theorem dX3_priceGates_24 : decode cX3_priceGates 24 = .ok (.getfield 17, 3) := by decide +kernel
theorem dX3_priceGates_27 : decode cX3_priceGates 27 = .ok (.iload_n 2, 1) := by decide +kernel
theorem dX3_priceGates_28 : decode cX3_priceGates 28 = .ok (.iload_n 3, 1) := by decide +kernel
theorem dX3_priceGates_29 : decode cX3_priceGates 29 = .ok (.ifCond .eq 29, 3) := by decide +kernel
theorem dX3_priceGates_32 : decode cX3_priceGates 32 = .ok (.aload_n 0, 1) := by decide +kernel
theorem dX3_priceGates_33 : decode cX3_priceGates 33 = .ok (.getfield 9, 3) := by decide +kernel
theorem dX3_priceGates_36 : decode cX3_priceGates 36 = .ok (.aload_n 1, 1) := by decide +kernel
theorem dX3_priceGates_37 : decode cX3_priceGates 37 = .ok (.iload_n 2, 1) := by decide +kernel
theorem dX3_priceGates_38 : decode cX3_priceGates 38 = .ok (.invokevirtual 116, 3) := by decide +kernel
theorem dX3_priceGates_41 : decode cX3_priceGates 41 = .ok (.sipush 1000, 3) := by decide +kernel
theorem dX3_priceGates_44 : decode cX3_priceGates 44 = .ok (.imul, 1) := by decide +kernel
theorem dX3_priceGates_45 : decode cX3_priceGates 45 = .ok (.aload_n 0, 1) := by decide +kernel
theorem dX3_priceGates_46 : decode cX3_priceGates 46 = .ok (.getfield 9, 3) := by decide +kernel
theorem dX3_priceGates_49 : decode cX3_priceGates 49 = .ok (.aload_n 1, 1) := by decide +kernel
theorem dX3_priceGates_50 : decode cX3_priceGates 50 = .ok (.iload_n 2, 1) := by decide +kernel
theorem dX3_priceGates_51 : decode cX3_priceGates 51 = .ok (.invokevirtual 120, 3) := by decide +kernel
theorem dX3_priceGates_54 : decode cX3_priceGates 54 = .ok (.iadd, 1) := by decide +kernel
theorem dX3_priceGates_55 : decode cX3_priceGates 55 = .ok (.goto 5, 3) := by decide +kernel
theorem dX3_priceGates_58 : decode cX3_priceGates 58 = .ok (.ldc 59, 2) := by decide +kernel
theorem dX3_priceGates_60 : decode cX3_priceGates 60 = .ok (.iastore, 1) := by decide +kernel
theorem dX3_priceGates_61 : decode cX3_priceGates 61 = .ok (.iinc 2 1, 3) := by decide +kernel
theorem dX3_priceGates_64 : decode cX3_priceGates 64 = .ok (.goto (-62), 3) := by decide +kernel
theorem dX3_priceGates_67 : decode cX3_priceGates 67 = .ok (.return_, 1) := by decide +kernel
theorem dX3_restFrom_0 : decode cX3_restFrom 0 = .ok (.iconst 0, 1) := by decide +kernel
theorem dX3_restFrom_1 : decode cX3_restFrom 1 = .ok (.istore_n 3, 1) := by decide +kernel
theorem dX3_restFrom_2 : decode cX3_restFrom 2 = .ok (.iload_n 3, 1) := by decide +kernel
theorem dX3_restFrom_3 : decode cX3_restFrom 3 = .ok (.aload_n 0, 1) := by decide +kernel
theorem dX3_restFrom_4 : decode cX3_restFrom 4 = .ok (.getfield 9, 3) := by decide +kernel
theorem dX3_restFrom_7 : decode cX3_restFrom 7 = .ok (.getfield 112, 3) := by decide +kernel
theorem dX3_restFrom_10 : decode cX3_restFrom 10 = .ok (.if_icmp .ge 88, 3) := by decide +kernel
theorem dX3_restFrom_13 : decode cX3_restFrom 13 = .ok (.aload_n 0, 1) := by decide +kernel
theorem dX3_restFrom_14 : decode cX3_restFrom 14 = .ok (.getfield 9, 3) := by decide +kernel
theorem dX3_restFrom_17 : decode cX3_restFrom 17 = .ok (.getfield 123, 3) := by decide +kernel
theorem dX3_restFrom_20 : decode cX3_restFrom 20 = .ok (.iload_n 3, 1) := by decide +kernel
theorem dX3_restFrom_21 : decode cX3_restFrom 21 = .ok (.aaload, 1) := by decide +kernel
theorem dX3_restFrom_22 : decode cX3_restFrom 22 = .ok (.iconst 0, 1) := by decide +kernel
theorem dX3_restFrom_23 : decode cX3_restFrom 23 = .ok (.iaload, 1) := by decide +kernel
theorem dX3_restFrom_24 : decode cX3_restFrom 24 = .ok (.iload_n 1, 1) := by decide +kernel
theorem dX3_restFrom_25 : decode cX3_restFrom 25 = .ok (.if_icmp .ne 67, 3) := by decide +kernel
theorem dX3_restFrom_28 : decode cX3_restFrom 28 = .ok (.aload_n 0, 1) := by decide +kernel
theorem dX3_restFrom_29 : decode cX3_restFrom 29 = .ok (.getfield 24, 3) := by decide +kernel
theorem dX3_restFrom_32 : decode cX3_restFrom 32 = .ok (.iload_n 3, 1) := by decide +kernel
theorem dX3_restFrom_33 : decode cX3_restFrom 33 = .ok (.aload_n 0, 1) := by decide +kernel
theorem dX3_restFrom_34 : decode cX3_restFrom 34 = .ok (.iload_n 2, 1) := by decide +kernel
theorem dX3_restFrom_35 : decode cX3_restFrom 35 = .ok (.aload_n 0, 1) := by decide +kernel
theorem dX3_restFrom_36 : decode cX3_restFrom 36 = .ok (.getfield 9, 3) := by decide +kernel
theorem dX3_restFrom_39 : decode cX3_restFrom 39 = .ok (.getfield 123, 3) := by decide +kernel
theorem dX3_restFrom_42 : decode cX3_restFrom 42 = .ok (.iload_n 3, 1) := by decide +kernel
theorem dX3_restFrom_43 : decode cX3_restFrom 43 = .ok (.aaload, 1) := by decide +kernel
theorem dX3_restFrom_44 : decode cX3_restFrom 44 = .ok (.iconst 1, 1) := by decide +kernel
theorem dX3_restFrom_45 : decode cX3_restFrom 45 = .ok (.iaload, 1) := by decide +kernel
theorem dX3_restFrom_46 : decode cX3_restFrom 46 = .ok (.invokevirtual 106, 3) := by decide +kernel
theorem dX3_restFrom_49 : decode cX3_restFrom 49 = .ok (.iastore, 1) := by decide +kernel
theorem dX3_restFrom_50 : decode cX3_restFrom 50 = .ok (.aload_n 0, 1) := by decide +kernel
theorem dX3_restFrom_51 : decode cX3_restFrom 51 = .ok (.getfield 21, 3) := by decide +kernel
theorem dX3_restFrom_54 : decode cX3_restFrom 54 = .ok (.iload_n 3, 1) := by decide +kernel
theorem dX3_restFrom_55 : decode cX3_restFrom 55 = .ok (.aload_n 0, 1) := by decide +kernel
theorem dX3_restFrom_56 : decode cX3_restFrom 56 = .ok (.getfield 17, 3) := by decide +kernel
theorem dX3_restFrom_59 : decode cX3_restFrom 59 = .ok (.iload_n 3, 1) := by decide +kernel
theorem dX3_restFrom_60 : decode cX3_restFrom 60 = .ok (.iaload, 1) := by decide +kernel
theorem dX3_restFrom_61 : decode cX3_restFrom 61 = .ok (.ldc 59, 2) := by decide +kernel
theorem dX3_restFrom_63 : decode cX3_restFrom 63 = .ok (.if_icmp .ge 12, 3) := by decide +kernel
theorem dX3_restFrom_66 : decode cX3_restFrom 66 = .ok (.aload_n 0, 1) := by decide +kernel
theorem dX3_restFrom_67 : decode cX3_restFrom 67 = .ok (.getfield 109, 3) := by decide +kernel
theorem dX3_restFrom_70 : decode cX3_restFrom 70 = .ok (.ldc 59, 2) := by decide +kernel
theorem dX3_restFrom_72 : decode cX3_restFrom 72 = .ok (.if_icmp .lt 8, 3) := by decide +kernel
theorem dX3_restFrom_75 : decode cX3_restFrom 75 = .ok (.ldc 59, 2) := by decide +kernel
theorem dX3_restFrom_77 : decode cX3_restFrom 77 = .ok (.goto 14, 3) := by decide +kernel
theorem dX3_restFrom_80 : decode cX3_restFrom 80 = .ok (.aload_n 0, 1) := by decide +kernel
theorem dX3_restFrom_81 : decode cX3_restFrom 81 = .ok (.getfield 17, 3) := by decide +kernel
theorem dX3_restFrom_84 : decode cX3_restFrom 84 = .ok (.iload_n 3, 1) := by decide +kernel
theorem dX3_restFrom_85 : decode cX3_restFrom 85 = .ok (.iaload, 1) := by decide +kernel
theorem dX3_restFrom_86 : decode cX3_restFrom 86 = .ok (.aload_n 0, 1) := by decide +kernel
theorem dX3_restFrom_87 : decode cX3_restFrom 87 = .ok (.getfield 109, 3) := by decide +kernel
theorem dX3_restFrom_90 : decode cX3_restFrom 90 = .ok (.iadd, 1) := by decide +kernel
theorem dX3_restFrom_91 : decode cX3_restFrom 91 = .ok (.iastore, 1) := by decide +kernel
theorem dX3_restFrom_92 : decode cX3_restFrom 92 = .ok (.iinc 3 1, 3) := by decide +kernel
theorem dX3_restFrom_95 : decode cX3_restFrom 95 = .ok (.goto (-93), 3) := by decide +kernel
theorem dX3_restFrom_98 : decode cX3_restFrom 98 = .ok (.return_, 1) := by decide +kernel
theorem dX3_restFromLast_0 : decode cX3_restFromLast 0 = .ok (.iconst 0, 1) := by decide +kernel
theorem dX3_restFromLast_1 : decode cX3_restFromLast 1 = .ok (.istore_n 3, 1) := by decide +kernel
theorem dX3_restFromLast_2 : decode cX3_restFromLast 2 = .ok (.iload_n 3, 1) := by decide +kernel
theorem dX3_restFromLast_3 : decode cX3_restFromLast 3 = .ok (.aload_n 0, 1) := by decide +kernel
theorem dX3_restFromLast_4 : decode cX3_restFromLast 4 = .ok (.getfield 9, 3) := by decide +kernel
theorem dX3_restFromLast_7 : decode cX3_restFromLast 7 = .ok (.getfield 112, 3) := by decide +kernel
theorem dX3_restFromLast_10 : decode cX3_restFromLast 10 = .ok (.if_icmp .ge 75, 3) := by decide +kernel
theorem dX3_restFromLast_13 : decode cX3_restFromLast 13 = .ok (.aload_n 0, 1) := by decide +kernel
theorem dX3_restFromLast_14 : decode cX3_restFromLast 14 = .ok (.getfield 9, 3) := by decide +kernel
theorem dX3_restFromLast_17 : decode cX3_restFromLast 17 = .ok (.getfield 123, 3) := by decide +kernel
theorem dX3_restFromLast_20 : decode cX3_restFromLast 20 = .ok (.iload_n 3, 1) := by decide +kernel
theorem dX3_restFromLast_21 : decode cX3_restFromLast 21 = .ok (.aaload, 1) := by decide +kernel
theorem dX3_restFromLast_22 : decode cX3_restFromLast 22 = .ok (.iconst 0, 1) := by decide +kernel
theorem dX3_restFromLast_23 : decode cX3_restFromLast 23 = .ok (.iaload, 1) := by decide +kernel
theorem dX3_restFromLast_24 : decode cX3_restFromLast 24 = .ok (.iload_n 1, 1) := by decide +kernel
theorem dX3_restFromLast_25 : decode cX3_restFromLast 25 = .ok (.if_icmp .ne 54, 3) := by decide +kernel
theorem dX3_restFromLast_28 : decode cX3_restFromLast 28 = .ok (.aload_n 0, 1) := by decide +kernel
theorem dX3_restFromLast_29 : decode cX3_restFromLast 29 = .ok (.getfield 24, 3) := by decide +kernel
theorem dX3_restFromLast_32 : decode cX3_restFromLast 32 = .ok (.iload_n 3, 1) := by decide +kernel
theorem dX3_restFromLast_33 : decode cX3_restFromLast 33 = .ok (.iconst (-1), 1) := by decide +kernel
theorem dX3_restFromLast_34 : decode cX3_restFromLast 34 = .ok (.iastore, 1) := by decide +kernel
theorem dX3_restFromLast_35 : decode cX3_restFromLast 35 = .ok (.aload_n 0, 1) := by decide +kernel
theorem dX3_restFromLast_36 : decode cX3_restFromLast 36 = .ok (.getfield 21, 3) := by decide +kernel
theorem dX3_restFromLast_39 : decode cX3_restFromLast 39 = .ok (.iload_n 3, 1) := by decide +kernel
theorem dX3_restFromLast_40 : decode cX3_restFromLast 40 = .ok (.aload_n 0, 1) := by decide +kernel
theorem dX3_restFromLast_41 : decode cX3_restFromLast 41 = .ok (.getfield 17, 3) := by decide +kernel
theorem dX3_restFromLast_44 : decode cX3_restFromLast 44 = .ok (.iload_n 3, 1) := by decide +kernel
theorem dX3_restFromLast_45 : decode cX3_restFromLast 45 = .ok (.iaload, 1) := by decide +kernel
theorem dX3_restFromLast_46 : decode cX3_restFromLast 46 = .ok (.ldc 59, 2) := by decide +kernel
theorem dX3_restFromLast_48 : decode cX3_restFromLast 48 = .ok (.if_icmp .lt 8, 3) := by decide +kernel
theorem dX3_restFromLast_51 : decode cX3_restFromLast 51 = .ok (.ldc 59, 2) := by decide +kernel
theorem dX3_restFromLast_53 : decode cX3_restFromLast 53 = .ok (.goto 25, 3) := by decide +kernel
theorem dX3_restFromLast_56 : decode cX3_restFromLast 56 = .ok (.aload_n 0, 1) := by decide +kernel
theorem dX3_restFromLast_57 : decode cX3_restFromLast 57 = .ok (.getfield 17, 3) := by decide +kernel
theorem dX3_restFromLast_60 : decode cX3_restFromLast 60 = .ok (.iload_n 3, 1) := by decide +kernel
theorem dX3_restFromLast_61 : decode cX3_restFromLast 61 = .ok (.iaload, 1) := by decide +kernel
theorem dX3_restFromLast_62 : decode cX3_restFromLast 62 = .ok (.aload_n 0, 1) := by decide +kernel
theorem dX3_restFromLast_63 : decode cX3_restFromLast 63 = .ok (.getfield 9, 3) := by decide +kernel
theorem dX3_restFromLast_66 : decode cX3_restFromLast 66 = .ok (.getfield 123, 3) := by decide +kernel
theorem dX3_restFromLast_69 : decode cX3_restFromLast 69 = .ok (.iload_n 3, 1) := by decide +kernel
theorem dX3_restFromLast_70 : decode cX3_restFromLast 70 = .ok (.aaload, 1) := by decide +kernel
theorem dX3_restFromLast_71 : decode cX3_restFromLast 71 = .ok (.iconst 1, 1) := by decide +kernel
theorem dX3_restFromLast_72 : decode cX3_restFromLast 72 = .ok (.iaload, 1) := by decide +kernel
theorem dX3_restFromLast_73 : decode cX3_restFromLast 73 = .ok (.iload_n 2, 1) := by decide +kernel
theorem dX3_restFromLast_74 : decode cX3_restFromLast 74 = .ok (.invokestatic 96, 3) := by decide +kernel
theorem dX3_restFromLast_77 : decode cX3_restFromLast 77 = .ok (.iadd, 1) := by decide +kernel
theorem dX3_restFromLast_78 : decode cX3_restFromLast 78 = .ok (.iastore, 1) := by decide +kernel
theorem dX3_restFromLast_79 : decode cX3_restFromLast 79 = .ok (.iinc 3 1, 3) := by decide +kernel
theorem dX3_restFromLast_82 : decode cX3_restFromLast 82 = .ok (.goto (-80), 3) := by decide +kernel
theorem dX3_restFromLast_85 : decode cX3_restFromLast 85 = .ok (.return_, 1) := by decide +kernel
theorem dX3_seek_0 : decode cX3_seek 0 = .ok (.aload_n 0, 1) := by decide +kernel
theorem dX3_seek_1 : decode cX3_seek 1 = .ok (.aload_n 1, 1) := by decide +kernel
theorem dX3_seek_2 : decode cX3_seek 2 = .ok (.putfield 9, 3) := by decide +kernel
theorem dX3_seek_5 : decode cX3_seek 5 = .ok (.aload_n 3, 1) := by decide +kernel
theorem dX3_seek_6 : decode cX3_seek 6 = .ok (.iconst 0, 1) := by decide +kernel
theorem dX3_seek_7 : decode cX3_seek 7 = .ok (.putfield 27, 3) := by decide +kernel
theorem dX3_seek_10 : decode cX3_seek 10 = .ok (.iconst 0, 1) := by decide +kernel
theorem dX3_seek_11 : decode cX3_seek 11 = .ok (.istore 4, 2) := by decide +kernel
theorem dX3_seek_13 : decode cX3_seek 13 = .ok (.iload 4, 2) := by decide +kernel
theorem dX3_seek_15 : decode cX3_seek 15 = .ok (.iconst 2, 1) := by decide +kernel
theorem dX3_seek_16 : decode cX3_seek 16 = .ok (.if_icmp .ge 79, 3) := by decide +kernel
theorem dX3_seek_19 : decode cX3_seek 19 = .ok (.iload 4, 2) := by decide +kernel
theorem dX3_seek_21 : decode cX3_seek 21 = .ok (.iconst 1, 1) := by decide +kernel
theorem dX3_seek_22 : decode cX3_seek 22 = .ok (.if_icmp .ne 7, 3) := by decide +kernel
theorem dX3_seek_25 : decode cX3_seek 25 = .ok (.iconst 1, 1) := by decide +kernel
theorem dX3_seek_26 : decode cX3_seek 26 = .ok (.goto 4, 3) := by decide +kernel
theorem dX3_seek_29 : decode cX3_seek 29 = .ok (.iconst 0, 1) := by decide +kernel
theorem dX3_seek_30 : decode cX3_seek 30 = .ok (.istore 5, 2) := by decide +kernel
theorem dX3_seek_32 : decode cX3_seek 32 = .ok (.aload_n 0, 1) := by decide +kernel
theorem dX3_seek_33 : decode cX3_seek 33 = .ok (.getfield 9, 3) := by decide +kernel
theorem dX3_seek_36 : decode cX3_seek 36 = .ok (.aload_n 2, 1) := by decide +kernel
theorem dX3_seek_37 : decode cX3_seek 37 = .ok (.iconst 0, 1) := by decide +kernel
theorem dX3_seek_38 : decode cX3_seek 38 = .ok (.iaload, 1) := by decide +kernel
theorem dX3_seek_39 : decode cX3_seek 39 = .ok (.iload 5, 2) := by decide +kernel
theorem dX3_seek_41 : decode cX3_seek 41 = .ok (.invokevirtual 33, 3) := by decide +kernel
theorem dX3_seek_44 : decode cX3_seek 44 = .ok (.astore 6, 2) := by decide +kernel
theorem dX3_seek_46 : decode cX3_seek 46 = .ok (.aload 6, 2) := by decide +kernel
theorem dX3_seek_48 : decode cX3_seek 48 = .ok (.getfield 37, 3) := by decide +kernel
theorem dX3_seek_51 : decode cX3_seek 51 = .ok (.ifCond .le 38, 3) := by decide +kernel
theorem dX3_seek_54 : decode cX3_seek 54 = .ok (.aload_n 0, 1) := by decide +kernel
theorem dX3_seek_55 : decode cX3_seek 55 = .ok (.aload 6, 2) := by decide +kernel
theorem dX3_seek_57 : decode cX3_seek 57 = .ok (.aload_n 2, 1) := by decide +kernel
theorem dX3_seek_58 : decode cX3_seek 58 = .ok (.iconst 1, 1) := by decide +kernel
theorem dX3_seek_59 : decode cX3_seek 59 = .ok (.iaload, 1) := by decide +kernel
theorem dX3_seek_60 : decode cX3_seek 60 = .ok (.aload_n 2, 1) := by decide +kernel
theorem dX3_seek_61 : decode cX3_seek 61 = .ok (.iconst 3, 1) := by decide +kernel
theorem dX3_seek_62 : decode cX3_seek 62 = .ok (.iaload, 1) := by decide +kernel
theorem dX3_seek_63 : decode cX3_seek 63 = .ok (.invokevirtual 43, 3) := by decide +kernel
theorem dX3_seek_66 : decode cX3_seek 66 = .ok (.ifCond .eq 23, 3) := by decide +kernel
theorem dX3_seek_69 : decode cX3_seek 69 = .ok (.aload_n 0, 1) := by decide +kernel
theorem dX3_seek_70 : decode cX3_seek 70 = .ok (.aload 6, 2) := by decide +kernel
theorem dX3_seek_72 : decode cX3_seek 72 = .ok (.invokevirtual 47, 3) := by decide +kernel
theorem dX3_seek_75 : decode cX3_seek 75 = .ok (.aload_n 0, 1) := by decide +kernel
theorem dX3_seek_76 : decode cX3_seek 76 = .ok (.aload 6, 2) := by decide +kernel
theorem dX3_seek_78 : decode cX3_seek 78 = .ok (.iload 5, 2) := by decide +kernel
theorem dX3_seek_80 : decode cX3_seek 80 = .ok (.aload_n 0, 1) := by decide +kernel
theorem dX3_seek_81 : decode cX3_seek 81 = .ok (.aload_n 2, 1) := by decide +kernel
theorem dX3_seek_82 : decode cX3_seek 82 = .ok (.invokevirtual 51, 3) := by decide +kernel
theorem dX3_seek_85 : decode cX3_seek 85 = .ok (.aload_n 3, 1) := by decide +kernel
theorem dX3_seek_86 : decode cX3_seek 86 = .ok (.invokevirtual 55, 3) := by decide +kernel
theorem dX3_seek_89 : decode cX3_seek 89 = .ok (.iinc 4 1, 3) := by decide +kernel
theorem dX3_seek_92 : decode cX3_seek 92 = .ok (.goto (-79), 3) := by decide +kernel
theorem dX3_seek_95 : decode cX3_seek 95 = .ok (.return_, 1) := by decide +kernel
theorem dX5_gatesOf_0 : decode cX5_gatesOf 0 = .ok (.iconst 0, 1) := by decide +kernel
theorem dX5_gatesOf_1 : decode cX5_gatesOf 1 = .ok (.istore 5, 2) := by decide +kernel
theorem dX5_gatesOf_3 : decode cX5_gatesOf 3 = .ok (.iload 5, 2) := by decide +kernel
theorem dX5_gatesOf_5 : decode cX5_gatesOf 5 = .ok (.aload_n 1, 1) := by decide +kernel
theorem dX5_gatesOf_6 : decode cX5_gatesOf 6 = .ok (.getfield 23, 3) := by decide +kernel
theorem dX5_gatesOf_9 : decode cX5_gatesOf 9 = .ok (.if_icmp .ge 38, 3) := by decide +kernel
theorem dX5_gatesOf_12 : decode cX5_gatesOf 12 = .ok (.aload_n 0, 1) := by decide +kernel
theorem dX5_gatesOf_13 : decode cX5_gatesOf 13 = .ok (.getfield 20, 3) := by decide +kernel
theorem dX5_gatesOf_16 : decode cX5_gatesOf 16 = .ok (.iload 5, 2) := by decide +kernel
theorem dX5_gatesOf_18 : decode cX5_gatesOf 18 = .ok (.aload_n 1, 1) := by decide +kernel
theorem dX5_gatesOf_19 : decode cX5_gatesOf 19 = .ok (.aload_n 2, 1) := by decide +kernel
theorem dX5_gatesOf_20 : decode cX5_gatesOf 20 = .ok (.iload 5, 2) := by decide +kernel
theorem dX5_gatesOf_22 : decode cX5_gatesOf 22 = .ok (.invokevirtual 27, 3) := by decide +kernel
theorem dX5_gatesOf_25 : decode cX5_gatesOf 25 = .ok (.ifCond .eq 13, 3) := by decide +kernel
theorem dX5_gatesOf_28 : decode cX5_gatesOf 28 = .ok (.aload_n 1, 1) := by decide +kernel
theorem dX5_gatesOf_29 : decode cX5_gatesOf 29 = .ok (.aload_n 2, 1) := by decide +kernel
theorem dX5_gatesOf_30 : decode cX5_gatesOf 30 = .ok (.iload 5, 2) := by decide +kernel
theorem dX5_gatesOf_32 : decode cX5_gatesOf 32 = .ok (.invokevirtual 31, 3) := by decide +kernel
theorem dX5_gatesOf_35 : decode cX5_gatesOf 35 = .ok (.goto 5, 3) := by decide +kernel
theorem dX5_gatesOf_38 : decode cX5_gatesOf 38 = .ok (.ldc 35, 2) := by decide +kernel
theorem dX5_gatesOf_40 : decode cX5_gatesOf 40 = .ok (.iastore, 1) := by decide +kernel
theorem dX5_gatesOf_41 : decode cX5_gatesOf 41 = .ok (.iinc 5 1, 3) := by decide +kernel
theorem dX5_gatesOf_44 : decode cX5_gatesOf 44 = .ok (.goto (-41), 3) := by decide +kernel
theorem dX5_gatesOf_47 : decode cX5_gatesOf 47 = .ok (.aload_n 0, 1) := by decide +kernel
theorem dX5_gatesOf_48 : decode cX5_gatesOf 48 = .ok (.getfield 13, 3) := by decide +kernel
theorem dX5_gatesOf_51 : decode cX5_gatesOf 51 = .ok (.ldc 35, 2) := by decide +kernel
theorem dX5_gatesOf_53 : decode cX5_gatesOf 53 = .ok (.invokestatic 36, 3) := by decide +kernel
theorem dX5_gatesOf_56 : decode cX5_gatesOf 56 = .ok (.iload_n 3, 1) := by decide +kernel
theorem dX5_gatesOf_57 : decode cX5_gatesOf 57 = .ok (.ifCond .lt 16, 3) := by decide +kernel
theorem dX5_gatesOf_60 : decode cX5_gatesOf 60 = .ok (.iload_n 3, 1) := by decide +kernel
theorem dX5_gatesOf_61 : decode cX5_gatesOf 61 = .ok (.bipush 72, 2) := by decide +kernel
theorem dX5_gatesOf_63 : decode cX5_gatesOf 63 = .ok (.if_icmp .ge 10, 3) := by decide +kernel
theorem dX5_gatesOf_66 : decode cX5_gatesOf 66 = .ok (.aload_n 0, 1) := by decide +kernel
theorem dX5_gatesOf_67 : decode cX5_gatesOf 67 = .ok (.getfield 13, 3) := by decide +kernel
theorem dX5_gatesOf_70 : decode cX5_gatesOf 70 = .ok (.iload_n 3, 1) := by decide +kernel
theorem dX5_gatesOf_71 : decode cX5_gatesOf 71 = .ok (.iconst 0, 1) := by decide +kernel
theorem dX5_gatesOf_72 : decode cX5_gatesOf 72 = .ok (.iastore, 1) := by decide +kernel
theorem dX5_gatesOf_73 : decode cX5_gatesOf 73 = .ok (.aload_n 0, 1) := by decide +kernel
theorem dX5_gatesOf_74 : decode cX5_gatesOf 74 = .ok (.aload_n 1, 1) := by decide +kernel
theorem dX5_gatesOf_75 : decode cX5_gatesOf 75 = .ok (.aload_n 0, 1) := by decide +kernel
theorem dX5_gatesOf_76 : decode cX5_gatesOf 76 = .ok (.getfield 13, 3) := by decide +kernel
theorem dX5_gatesOf_79 : decode cX5_gatesOf 79 = .ok (.invokevirtual 42, 3) := by decide +kernel
theorem dX5_gatesOf_82 : decode cX5_gatesOf 82 = .ok (.aload_n 0, 1) := by decide +kernel
theorem dX5_gatesOf_83 : decode cX5_gatesOf 83 = .ok (.getfield 17, 3) := by decide +kernel
theorem dX5_gatesOf_86 : decode cX5_gatesOf 86 = .ok (.ldc 35, 2) := by decide +kernel
theorem dX5_gatesOf_88 : decode cX5_gatesOf 88 = .ok (.invokestatic 36, 3) := by decide +kernel
theorem dX5_gatesOf_91 : decode cX5_gatesOf 91 = .ok (.iconst 0, 1) := by decide +kernel
theorem dX5_gatesOf_92 : decode cX5_gatesOf 92 = .ok (.istore 5, 2) := by decide +kernel
theorem dX5_gatesOf_94 : decode cX5_gatesOf 94 = .ok (.iload 5, 2) := by decide +kernel
theorem dX5_gatesOf_96 : decode cX5_gatesOf 96 = .ok (.bipush 12, 2) := by decide +kernel
theorem dX5_gatesOf_98 : decode cX5_gatesOf 98 = .ok (.if_icmp .ge 17, 3) := by decide +kernel
theorem dX5_gatesOf_101 : decode cX5_gatesOf 101 = .ok (.aload_n 0, 1) := by decide +kernel
theorem dX5_gatesOf_102 : decode cX5_gatesOf 102 = .ok (.getfield 17, 3) := by decide +kernel
theorem dX5_gatesOf_105 : decode cX5_gatesOf 105 = .ok (.iload 5, 2) := by decide +kernel
theorem dX5_gatesOf_107 : decode cX5_gatesOf 107 = .ok (.iconst 0, 1) := by decide +kernel
theorem dX5_gatesOf_108 : decode cX5_gatesOf 108 = .ok (.iastore, 1) := by decide +kernel
theorem dX5_gatesOf_109 : decode cX5_gatesOf 109 = .ok (.iinc 5 1, 3) := by decide +kernel
theorem dX5_gatesOf_112 : decode cX5_gatesOf 112 = .ok (.goto (-18), 3) := by decide +kernel
theorem dX5_gatesOf_115 : decode cX5_gatesOf 115 = .ok (.aload_n 0, 1) := by decide +kernel
theorem dX5_gatesOf_116 : decode cX5_gatesOf 116 = .ok (.aload_n 1, 1) := by decide +kernel
theorem dX5_gatesOf_117 : decode cX5_gatesOf 117 = .ok (.aload_n 0, 1) := by decide +kernel
theorem dX5_gatesOf_118 : decode cX5_gatesOf 118 = .ok (.getfield 17, 3) := by decide +kernel
theorem dX5_gatesOf_121 : decode cX5_gatesOf 121 = .ok (.invokevirtual 42, 3) := by decide +kernel
theorem dX5_gatesOf_124 : decode cX5_gatesOf 124 = .ok (.iconst 0, 1) := by decide +kernel
theorem dX5_gatesOf_125 : decode cX5_gatesOf 125 = .ok (.istore 5, 2) := by decide +kernel
theorem dX5_gatesOf_127 : decode cX5_gatesOf 127 = .ok (.iconst 0, 1) := by decide +kernel
theorem dX5_gatesOf_128 : decode cX5_gatesOf 128 = .ok (.istore 6, 2) := by decide +kernel
theorem dX5_gatesOf_130 : decode cX5_gatesOf 130 = .ok (.iload 6, 2) := by decide +kernel
theorem dX5_gatesOf_132 : decode cX5_gatesOf 132 = .ok (.aload_n 1, 1) := by decide +kernel
theorem dX5_gatesOf_133 : decode cX5_gatesOf 133 = .ok (.getfield 23, 3) := by decide +kernel
theorem dX5_gatesOf_136 : decode cX5_gatesOf 136 = .ok (.if_icmp .ge 30, 3) := by decide +kernel
theorem dX5_gatesOf_139 : decode cX5_gatesOf 139 = .ok (.aload_n 0, 1) := by decide +kernel
theorem dX5_gatesOf_140 : decode cX5_gatesOf 140 = .ok (.aload_n 1, 1) := by decide +kernel
theorem dX5_gatesOf_141 : decode cX5_gatesOf 141 = .ok (.iload 6, 2) := by decide +kernel
theorem dX5_gatesOf_143 : decode cX5_gatesOf 143 = .ok (.invokevirtual 46, 3) := by decide +kernel
theorem dX5_gatesOf_146 : decode cX5_gatesOf 146 = .ok (.iload 4, 2) := by decide +kernel
theorem dX5_gatesOf_148 : decode cX5_gatesOf 148 = .ok (.if_icmp .gt 12, 3) := by decide +kernel
theorem dX5_gatesOf_151 : decode cX5_gatesOf 151 = .ok (.iload 5, 2) := by decide +kernel
theorem dX5_gatesOf_153 : decode cX5_gatesOf 153 = .ok (.iconst 1, 1) := by decide +kernel
theorem dX5_gatesOf_154 : decode cX5_gatesOf 154 = .ok (.iload 6, 2) := by decide +kernel
theorem dX5_gatesOf_156 : decode cX5_gatesOf 156 = .ok (.ishl, 1) := by decide +kernel
theorem dX5_gatesOf_157 : decode cX5_gatesOf 157 = .ok (.ior, 1) := by decide +kernel
theorem dX5_gatesOf_158 : decode cX5_gatesOf 158 = .ok (.istore 5, 2) := by decide +kernel
theorem dX5_gatesOf_160 : decode cX5_gatesOf 160 = .ok (.iinc 6 1, 3) := by decide +kernel
theorem dX5_gatesOf_163 : decode cX5_gatesOf 163 = .ok (.goto (-33), 3) := by decide +kernel
theorem dX5_gatesOf_166 : decode cX5_gatesOf 166 = .ok (.iload 5, 2) := by decide +kernel
theorem dX5_gatesOf_168 : decode cX5_gatesOf 168 = .ok (.ireturn, 1) := by decide +kernel
theorem dX5_init_0 : decode cX5_init 0 = .ok (.aload_n 0, 1) := by decide +kernel
theorem dX5_init_1 : decode cX5_init 1 = .ok (.invokespecial 5, 3) := by decide +kernel
theorem dX5_init_4 : decode cX5_init 4 = .ok (.aload_n 0, 1) := by decide +kernel
theorem dX5_init_5 : decode cX5_init 5 = .ok (.bipush 72, 2) := by decide +kernel
theorem dX5_init_7 : decode cX5_init 7 = .ok (.newarray .int, 2) := by decide +kernel
theorem dX5_init_9 : decode cX5_init 9 = .ok (.putfield 13, 3) := by decide +kernel
theorem dX5_init_12 : decode cX5_init 12 = .ok (.aload_n 0, 1) := by decide +kernel
theorem dX5_init_13 : decode cX5_init 13 = .ok (.bipush 72, 2) := by decide +kernel
theorem dX5_init_15 : decode cX5_init 15 = .ok (.newarray .int, 2) := by decide +kernel
theorem dX5_init_17 : decode cX5_init 17 = .ok (.putfield 17, 3) := by decide +kernel
theorem dX5_init_20 : decode cX5_init 20 = .ok (.aload_n 0, 1) := by decide +kernel
theorem dX5_init_21 : decode cX5_init 21 = .ok (.bipush 11, 2) := by decide +kernel
theorem dX5_init_23 : decode cX5_init 23 = .ok (.newarray .int, 2) := by decide +kernel
theorem dX5_init_25 : decode cX5_init 25 = .ok (.putfield 20, 3) := by decide +kernel
theorem dX5_init_28 : decode cX5_init 28 = .ok (.return_, 1) := by decide +kernel
theorem dX5_shorten_0 : decode cX5_shorten 0 = .ok (.aload_n 0, 1) := by decide +kernel
theorem dX5_shorten_1 : decode cX5_shorten 1 = .ok (.iload_n 1, 1) := by decide +kernel
theorem dX5_shorten_2 : decode cX5_shorten 2 = .ok (.iaload, 1) := by decide +kernel
theorem dX5_shorten_3 : decode cX5_shorten 3 = .ok (.iload_n 3, 1) := by decide +kernel
theorem dX5_shorten_4 : decode cX5_shorten 4 = .ok (.iadd, 1) := by decide +kernel
theorem dX5_shorten_5 : decode cX5_shorten 5 = .ok (.aload_n 0, 1) := by decide +kernel
theorem dX5_shorten_6 : decode cX5_shorten 6 = .ok (.iload_n 2, 1) := by decide +kernel
theorem dX5_shorten_7 : decode cX5_shorten 7 = .ok (.iaload, 1) := by decide +kernel
theorem dX5_shorten_8 : decode cX5_shorten 8 = .ok (.if_icmp .lt 5, 3) := by decide +kernel
theorem dX5_shorten_11 : decode cX5_shorten 11 = .ok (.iconst 0, 1) := by decide +kernel
theorem dX5_shorten_12 : decode cX5_shorten 12 = .ok (.ireturn, 1) := by decide +kernel
theorem dX5_shorten_13 : decode cX5_shorten 13 = .ok (.aload_n 0, 1) := by decide +kernel
theorem dX5_shorten_14 : decode cX5_shorten 14 = .ok (.iload_n 2, 1) := by decide +kernel
theorem dX5_shorten_15 : decode cX5_shorten 15 = .ok (.aload_n 0, 1) := by decide +kernel
theorem dX5_shorten_16 : decode cX5_shorten 16 = .ok (.iload_n 1, 1) := by decide +kernel
theorem dX5_shorten_17 : decode cX5_shorten 17 = .ok (.iaload, 1) := by decide +kernel
theorem dX5_shorten_18 : decode cX5_shorten 18 = .ok (.iload_n 3, 1) := by decide +kernel
theorem dX5_shorten_19 : decode cX5_shorten 19 = .ok (.iadd, 1) := by decide +kernel
theorem dX5_shorten_20 : decode cX5_shorten 20 = .ok (.iastore, 1) := by decide +kernel
theorem dX5_shorten_21 : decode cX5_shorten 21 = .ok (.iconst 1, 1) := by decide +kernel
theorem dX5_shorten_22 : decode cX5_shorten 22 = .ok (.ireturn, 1) := by decide +kernel
theorem dX5_shortestBy_0 : decode cX5_shortestBy 0 = .ok (.aload_n 1, 1) := by decide +kernel
theorem dX5_shortestBy_1 : decode cX5_shortestBy 1 = .ok (.iload_n 2, 1) := by decide +kernel
theorem dX5_shortestBy_2 : decode cX5_shortestBy 2 = .ok (.invokestatic 50, 3) := by decide +kernel
theorem dX5_shortestBy_5 : decode cX5_shortestBy 5 = .ok (.istore_n 3, 1) := by decide +kernel
theorem dX5_shortestBy_6 : decode cX5_shortestBy 6 = .ok (.iload_n 3, 1) := by decide +kernel
theorem dX5_shortestBy_7 : decode cX5_shortestBy 7 = .ok (.bipush 12, 2) := by decide +kernel
theorem dX5_shortestBy_9 : decode cX5_shortestBy 9 = .ok (.iadd, 1) := by decide +kernel
theorem dX5_shortestBy_10 : decode cX5_shortestBy 10 = .ok (.istore 4, 2) := by decide +kernel
theorem dX5_shortestBy_12 : decode cX5_shortestBy 12 = .ok (.aload_n 0, 1) := by decide +kernel
theorem dX5_shortestBy_13 : decode cX5_shortestBy 13 = .ok (.getfield 13, 3) := by decide +kernel
theorem dX5_shortestBy_16 : decode cX5_shortestBy 16 = .ok (.iload 4, 2) := by decide +kernel
theorem dX5_shortestBy_18 : decode cX5_shortestBy 18 = .ok (.iaload, 1) := by decide +kernel
theorem dX5_shortestBy_19 : decode cX5_shortestBy 19 = .ok (.aload_n 0, 1) := by decide +kernel
theorem dX5_shortestBy_20 : decode cX5_shortestBy 20 = .ok (.getfield 17, 3) := by decide +kernel
theorem dX5_shortestBy_23 : decode cX5_shortestBy 23 = .ok (.iload_n 3, 1) := by decide +kernel
theorem dX5_shortestBy_24 : decode cX5_shortestBy 24 = .ok (.iaload, 1) := by decide +kernel
theorem dX5_shortestBy_25 : decode cX5_shortestBy 25 = .ok (.iadd, 1) := by decide +kernel
theorem dX5_shortestBy_26 : decode cX5_shortestBy 26 = .ok (.istore 5, 2) := by decide +kernel
theorem dX5_shortestBy_28 : decode cX5_shortestBy 28 = .ok (.aload_n 0, 1) := by decide +kernel
theorem dX5_shortestBy_29 : decode cX5_shortestBy 29 = .ok (.getfield 13, 3) := by decide +kernel
theorem dX5_shortestBy_32 : decode cX5_shortestBy 32 = .ok (.iload_n 3, 1) := by decide +kernel
theorem dX5_shortestBy_33 : decode cX5_shortestBy 33 = .ok (.iaload, 1) := by decide +kernel
theorem dX5_shortestBy_34 : decode cX5_shortestBy 34 = .ok (.aload_n 0, 1) := by decide +kernel
theorem dX5_shortestBy_35 : decode cX5_shortestBy 35 = .ok (.getfield 17, 3) := by decide +kernel
theorem dX5_shortestBy_38 : decode cX5_shortestBy 38 = .ok (.iload 4, 2) := by decide +kernel
theorem dX5_shortestBy_40 : decode cX5_shortestBy 40 = .ok (.iaload, 1) := by decide +kernel
theorem dX5_shortestBy_41 : decode cX5_shortestBy 41 = .ok (.iadd, 1) := by decide +kernel
theorem dX5_shortestBy_42 : decode cX5_shortestBy 42 = .ok (.istore 6, 2) := by decide +kernel
theorem dX5_shortestBy_44 : decode cX5_shortestBy 44 = .ok (.iload 5, 2) := by decide +kernel
theorem dX5_shortestBy_46 : decode cX5_shortestBy 46 = .ok (.iload 6, 2) := by decide +kernel
theorem dX5_shortestBy_48 : decode cX5_shortestBy 48 = .ok (.invokestatic 53, 3) := by decide +kernel
theorem dX5_shortestBy_51 : decode cX5_shortestBy 51 = .ok (.aload_n 0, 1) := by decide +kernel
theorem dX5_shortestBy_52 : decode cX5_shortestBy 52 = .ok (.getfield 20, 3) := by decide +kernel
theorem dX5_shortestBy_55 : decode cX5_shortestBy 55 = .ok (.iload_n 2, 1) := by decide +kernel
theorem dX5_shortestBy_56 : decode cX5_shortestBy 56 = .ok (.iaload, 1) := by decide +kernel
theorem dX5_shortestBy_57 : decode cX5_shortestBy 57 = .ok (.iadd, 1) := by decide +kernel
theorem dX5_shortestBy_58 : decode cX5_shortestBy 58 = .ok (.ireturn, 1) := by decide +kernel
theorem dX5_spotOf_0 : decode cX5_spotOf 0 = .ok (.aload_n 0, 1) := by decide +kernel
theorem dX5_spotOf_1 : decode cX5_spotOf 1 = .ok (.getfield 59, 3) := by decide +kernel
theorem dX5_spotOf_4 : decode cX5_spotOf 4 = .ok (.iload_n 1, 1) := by decide +kernel
theorem dX5_spotOf_5 : decode cX5_spotOf 5 = .ok (.aaload, 1) := by decide +kernel
theorem dX5_spotOf_6 : decode cX5_spotOf 6 = .ok (.iconst 0, 1) := by decide +kernel
theorem dX5_spotOf_7 : decode cX5_spotOf 7 = .ok (.iaload, 1) := by decide +kernel
theorem dX5_spotOf_8 : decode cX5_spotOf 8 = .ok (.bipush 12, 2) := by decide +kernel
theorem dX5_spotOf_10 : decode cX5_spotOf 10 = .ok (.imul, 1) := by decide +kernel
theorem dX5_spotOf_11 : decode cX5_spotOf 11 = .ok (.aload_n 0, 1) := by decide +kernel
theorem dX5_spotOf_12 : decode cX5_spotOf 12 = .ok (.getfield 59, 3) := by decide +kernel
theorem dX5_spotOf_15 : decode cX5_spotOf 15 = .ok (.iload_n 1, 1) := by decide +kernel
theorem dX5_spotOf_16 : decode cX5_spotOf 16 = .ok (.aaload, 1) := by decide +kernel
theorem dX5_spotOf_17 : decode cX5_spotOf 17 = .ok (.iconst 1, 1) := by decide +kernel
theorem dX5_spotOf_18 : decode cX5_spotOf 18 = .ok (.iaload, 1) := by decide +kernel
theorem dX5_spotOf_19 : decode cX5_spotOf 19 = .ok (.iadd, 1) := by decide +kernel
theorem dX5_spotOf_20 : decode cX5_spotOf 20 = .ok (.ireturn, 1) := by decide +kernel
theorem dX5_spread_0 : decode cX5_spread 0 = .ok (.iconst 1, 1) := by decide +kernel
theorem dX5_spread_1 : decode cX5_spread 1 = .ok (.istore_n 3, 1) := by decide +kernel
theorem dX5_spread_2 : decode cX5_spread 2 = .ok (.iconst 0, 1) := by decide +kernel
theorem dX5_spread_3 : decode cX5_spread 3 = .ok (.istore 4, 2) := by decide +kernel
theorem dX5_spread_5 : decode cX5_spread 5 = .ok (.iload_n 3, 1) := by decide +kernel
theorem dX5_spread_6 : decode cX5_spread 6 = .ok (.ifCond .eq 115, 3) := by decide +kernel
theorem dX5_spread_9 : decode cX5_spread 9 = .ok (.iload 4, 2) := by decide +kernel
theorem dX5_spread_11 : decode cX5_spread 11 = .ok (.bipush 72, 2) := by decide +kernel
theorem dX5_spread_13 : decode cX5_spread 13 = .ok (.if_icmp .ge 108, 3) := by decide +kernel
theorem dX5_spread_16 : decode cX5_spread 16 = .ok (.iconst 0, 1) := by decide +kernel
theorem dX5_spread_17 : decode cX5_spread 17 = .ok (.istore_n 3, 1) := by decide +kernel
theorem dX5_spread_18 : decode cX5_spread 18 = .ok (.iconst 0, 1) := by decide +kernel
theorem dX5_spread_19 : decode cX5_spread 19 = .ok (.istore 5, 2) := by decide +kernel
theorem dX5_spread_21 : decode cX5_spread 21 = .ok (.iload 5, 2) := by decide +kernel
theorem dX5_spread_23 : decode cX5_spread 23 = .ok (.aload_n 1, 1) := by decide +kernel
theorem dX5_spread_24 : decode cX5_spread 24 = .ok (.getfield 63, 3) := by decide +kernel
theorem dX5_spread_27 : decode cX5_spread 27 = .ok (.if_icmp .ge 18, 3) := by decide +kernel
theorem dX5_spread_30 : decode cX5_spread 30 = .ok (.iload 5, 2) := by decide +kernel
theorem dX5_spread_32 : decode cX5_spread 32 = .ok (.bipush 12, 2) := by decide +kernel
theorem dX5_spread_34 : decode cX5_spread 34 = .ok (.imul, 1) := by decide +kernel
theorem dX5_spread_35 : decode cX5_spread 35 = .ok (.aload_n 2, 1) := by decide +kernel
theorem dX5_spread_36 : decode cX5_spread 36 = .ok (.invokestatic 66, 3) := by decide +kernel
theorem dX5_spread_39 : decode cX5_spread 39 = .ok (.iinc 5 1, 3) := by decide +kernel
theorem dX5_spread_42 : decode cX5_spread 42 = .ok (.goto (-21), 3) := by decide +kernel
theorem dX5_spread_45 : decode cX5_spread 45 = .ok (.iconst 0, 1) := by decide +kernel
theorem dX5_spread_46 : decode cX5_spread 46 = .ok (.istore 5, 2) := by decide +kernel
theorem dX5_spread_48 : decode cX5_spread 48 = .ok (.iload 5, 2) := by decide +kernel
theorem dX5_spread_50 : decode cX5_spread 50 = .ok (.aload_n 1, 1) := by decide +kernel
theorem dX5_spread_51 : decode cX5_spread 51 = .ok (.getfield 23, 3) := by decide +kernel
theorem dX5_spread_54 : decode cX5_spread 54 = .ok (.if_icmp .ge 61, 3) := by decide +kernel
theorem dX5_spread_57 : decode cX5_spread 57 = .ok (.aload_n 1, 1) := by decide +kernel
theorem dX5_spread_58 : decode cX5_spread 58 = .ok (.iload 5, 2) := by decide +kernel
theorem dX5_spread_60 : decode cX5_spread 60 = .ok (.invokestatic 50, 3) := by decide +kernel
theorem dX5_spread_63 : decode cX5_spread 63 = .ok (.istore 6, 2) := by decide +kernel
theorem dX5_spread_65 : decode cX5_spread 65 = .ok (.aload_n 2, 1) := by decide +kernel
theorem dX5_spread_66 : decode cX5_spread 66 = .ok (.iload 6, 2) := by decide +kernel
theorem dX5_spread_68 : decode cX5_spread 68 = .ok (.iload 6, 2) := by decide +kernel
theorem dX5_spread_70 : decode cX5_spread 70 = .ok (.bipush 12, 2) := by decide +kernel
theorem dX5_spread_72 : decode cX5_spread 72 = .ok (.iadd, 1) := by decide +kernel
theorem dX5_spread_73 : decode cX5_spread 73 = .ok (.aload_n 0, 1) := by decide +kernel
theorem dX5_spread_74 : decode cX5_spread 74 = .ok (.getfield 20, 3) := by decide +kernel
theorem dX5_spread_77 : decode cX5_spread 77 = .ok (.iload 5, 2) := by decide +kernel
theorem dX5_spread_79 : decode cX5_spread 79 = .ok (.iaload, 1) := by decide +kernel
theorem dX5_spread_80 : decode cX5_spread 80 = .ok (.invokestatic 70, 3) := by decide +kernel
theorem dX5_spread_83 : decode cX5_spread 83 = .ok (.ifCond .ne 24, 3) := by decide +kernel
theorem dX5_spread_86 : decode cX5_spread 86 = .ok (.aload_n 2, 1) := by decide +kernel
theorem dX5_spread_87 : decode cX5_spread 87 = .ok (.iload 6, 2) := by decide +kernel
theorem dX5_spread_89 : decode cX5_spread 89 = .ok (.bipush 12, 2) := by decide +kernel
theorem dX5_spread_91 : decode cX5_spread 91 = .ok (.iadd, 1) := by decide +kernel
theorem dX5_spread_92 : decode cX5_spread 92 = .ok (.iload 6, 2) := by decide +kernel
theorem dX5_spread_94 : decode cX5_spread 94 = .ok (.aload_n 0, 1) := by decide +kernel
theorem dX5_spread_95 : decode cX5_spread 95 = .ok (.getfield 20, 3) := by decide +kernel
theorem dX5_spread_98 : decode cX5_spread 98 = .ok (.iload 5, 2) := by decide +kernel
theorem dX5_spread_100 : decode cX5_spread 100 = .ok (.iaload, 1) := by decide +kernel
theorem dX5_spread_101 : decode cX5_spread 101 = .ok (.invokestatic 70, 3) := by decide +kernel
theorem dX5_spread_104 : decode cX5_spread 104 = .ok (.ifCond .eq 5, 3) := by decide +kernel
theorem dX5_spread_107 : decode cX5_spread 107 = .ok (.iconst 1, 1) := by decide +kernel
theorem dX5_spread_108 : decode cX5_spread 108 = .ok (.istore_n 3, 1) := by decide +kernel
theorem dX5_spread_109 : decode cX5_spread 109 = .ok (.iinc 5 1, 3) := by decide +kernel
theorem dX5_spread_112 : decode cX5_spread 112 = .ok (.goto (-64), 3) := by decide +kernel
theorem dX5_spread_115 : decode cX5_spread 115 = .ok (.iinc 4 1, 3) := by decide +kernel
theorem dX5_spread_118 : decode cX5_spread 118 = .ok (.goto (-113), 3) := by decide +kernel
theorem dX5_spread_121 : decode cX5_spread 121 = .ok (.return_, 1) := by decide +kernel
theorem dX5_spreadRound_0 : decode cX5_spreadRound 0 = .ok (.iconst 0, 1) := by decide +kernel
theorem dX5_spreadRound_1 : decode cX5_spreadRound 1 = .ok (.istore_n 2, 1) := by decide +kernel
theorem dX5_spreadRound_2 : decode cX5_spreadRound 2 = .ok (.iload_n 2, 1) := by decide +kernel
theorem dX5_spreadRound_3 : decode cX5_spreadRound 3 = .ok (.bipush 24, 2) := by decide +kernel
theorem dX5_spreadRound_5 : decode cX5_spreadRound 5 = .ok (.if_icmp .ge 58, 3) := by decide +kernel
theorem dX5_spreadRound_8 : decode cX5_spreadRound 8 = .ok (.iload_n 2, 1) := by decide +kernel
theorem dX5_spreadRound_9 : decode cX5_spreadRound 9 = .ok (.bipush 12, 2) := by decide +kernel
theorem dX5_spreadRound_11 : decode cX5_spreadRound 11 = .ok (.irem, 1) := by decide +kernel
theorem dX5_spreadRound_12 : decode cX5_spreadRound 12 = .ok (.istore_n 3, 1) := by decide +kernel
theorem dX5_spreadRound_13 : decode cX5_spreadRound 13 = .ok (.iload_n 2, 1) := by decide +kernel
theorem dX5_spreadRound_14 : decode cX5_spreadRound 14 = .ok (.iconst 1, 1) := by decide +kernel
theorem dX5_spreadRound_15 : decode cX5_spreadRound 15 = .ok (.iadd, 1) := by decide +kernel
theorem dX5_spreadRound_16 : decode cX5_spreadRound 16 = .ok (.bipush 12, 2) := by decide +kernel
theorem dX5_spreadRound_18 : decode cX5_spreadRound 18 = .ok (.irem, 1) := by decide +kernel
theorem dX5_spreadRound_19 : decode cX5_spreadRound 19 = .ok (.istore 4, 2) := by decide +kernel
theorem dX5_spreadRound_21 : decode cX5_spreadRound 21 = .ok (.aload_n 1, 1) := by decide +kernel
theorem dX5_spreadRound_22 : decode cX5_spreadRound 22 = .ok (.iload_n 0, 1) := by decide +kernel
theorem dX5_spreadRound_23 : decode cX5_spreadRound 23 = .ok (.iload_n 3, 1) := by decide +kernel
theorem dX5_spreadRound_24 : decode cX5_spreadRound 24 = .ok (.iadd, 1) := by decide +kernel
theorem dX5_spreadRound_25 : decode cX5_spreadRound 25 = .ok (.iload_n 0, 1) := by decide +kernel
theorem dX5_spreadRound_26 : decode cX5_spreadRound 26 = .ok (.iload 4, 2) := by decide +kernel
theorem dX5_spreadRound_28 : decode cX5_spreadRound 28 = .ok (.iadd, 1) := by decide +kernel
theorem dX5_spreadRound_29 : decode cX5_spreadRound 29 = .ok (.iconst 1, 1) := by decide +kernel
theorem dX5_spreadRound_30 : decode cX5_spreadRound 30 = .ok (.invokestatic 70, 3) := by decide +kernel
theorem dX5_spreadRound_33 : decode cX5_spreadRound 33 = .ok (.pop, 1) := by decide +kernel
theorem dX5_spreadRound_34 : decode cX5_spreadRound 34 = .ok (.aload_n 1, 1) := by decide +kernel
theorem dX5_spreadRound_35 : decode cX5_spreadRound 35 = .ok (.iload_n 0, 1) := by decide +kernel
theorem dX5_spreadRound_36 : decode cX5_spreadRound 36 = .ok (.bipush 12, 2) := by decide +kernel
theorem dX5_spreadRound_38 : decode cX5_spreadRound 38 = .ok (.iadd, 1) := by decide +kernel
theorem dX5_spreadRound_39 : decode cX5_spreadRound 39 = .ok (.iconst 1, 1) := by decide +kernel
theorem dX5_spreadRound_40 : decode cX5_spreadRound 40 = .ok (.isub, 1) := by decide +kernel
theorem dX5_spreadRound_41 : decode cX5_spreadRound 41 = .ok (.iload_n 3, 1) := by decide +kernel
theorem dX5_spreadRound_42 : decode cX5_spreadRound 42 = .ok (.isub, 1) := by decide +kernel
theorem dX5_spreadRound_43 : decode cX5_spreadRound 43 = .ok (.iload_n 0, 1) := by decide +kernel
theorem dX5_spreadRound_44 : decode cX5_spreadRound 44 = .ok (.bipush 12, 2) := by decide +kernel
theorem dX5_spreadRound_46 : decode cX5_spreadRound 46 = .ok (.iadd, 1) := by decide +kernel
theorem dX5_spreadRound_47 : decode cX5_spreadRound 47 = .ok (.iconst 1, 1) := by decide +kernel
theorem dX5_spreadRound_48 : decode cX5_spreadRound 48 = .ok (.isub, 1) := by decide +kernel
theorem dX5_spreadRound_49 : decode cX5_spreadRound 49 = .ok (.iload 4, 2) := by decide +kernel
theorem dX5_spreadRound_51 : decode cX5_spreadRound 51 = .ok (.isub, 1) := by decide +kernel
theorem dX5_spreadRound_52 : decode cX5_spreadRound 52 = .ok (.iconst 1, 1) := by decide +kernel
theorem dX5_spreadRound_53 : decode cX5_spreadRound 53 = .ok (.invokestatic 70, 3) := by decide +kernel
theorem dX5_spreadRound_56 : decode cX5_spreadRound 56 = .ok (.pop, 1) := by decide +kernel
theorem dX5_spreadRound_57 : decode cX5_spreadRound 57 = .ok (.iinc 2 1, 3) := by decide +kernel
theorem dX5_spreadRound_60 : decode cX5_spreadRound 60 = .ok (.goto (-58), 3) := by decide +kernel
theorem dX5_spreadRound_63 : decode cX5_spreadRound 63 = .ok (.return_, 1) := by decide +kernel
theorem dX6_canLie_0 : decode cX6_canLie 0 = .ok (.iload_n 1, 1) := by decide +kernel
theorem dX6_canLie_1 : decode cX6_canLie 1 = .ok (.ifCond .eq 27, 3) := by decide +kernel
theorem dX6_canLie_4 : decode cX6_canLie 4 = .ok (.iload_n 1, 1) := by decide +kernel
theorem dX6_canLie_5 : decode cX6_canLie 5 = .ok (.iconst 1, 1) := by decide +kernel
theorem dX6_canLie_6 : decode cX6_canLie 6 = .ok (.if_icmp .ne 10, 3) := by decide +kernel
theorem dX6_canLie_9 : decode cX6_canLie 9 = .ok (.aload_n 0, 1) := by decide +kernel
theorem dX6_canLie_10 : decode cX6_canLie 10 = .ok (.getfield 19, 3) := by decide +kernel
theorem dX6_canLie_13 : decode cX6_canLie 13 = .ok (.ifCond .ne 15, 3) := by decide +kernel
theorem dX6_canLie_16 : decode cX6_canLie 16 = .ok (.iload_n 1, 1) := by decide +kernel
theorem dX6_canLie_17 : decode cX6_canLie 17 = .ok (.iconst 2, 1) := by decide +kernel
theorem dX6_canLie_18 : decode cX6_canLie 18 = .ok (.if_icmp .ne 14, 3) := by decide +kernel
theorem dX6_canLie_21 : decode cX6_canLie 21 = .ok (.aload_n 0, 1) := by decide +kernel
theorem dX6_canLie_22 : decode cX6_canLie 22 = .ok (.getfield 23, 3) := by decide +kernel
theorem dX6_canLie_25 : decode cX6_canLie 25 = .ok (.ifCond .eq 7, 3) := by decide +kernel
theorem dX6_canLie_28 : decode cX6_canLie 28 = .ok (.iconst 1, 1) := by decide +kernel
theorem dX6_canLie_29 : decode cX6_canLie 29 = .ok (.goto 4, 3) := by decide +kernel
theorem dX6_canLie_32 : decode cX6_canLie 32 = .ok (.iconst 0, 1) := by decide +kernel
theorem dX6_canLie_33 : decode cX6_canLie 33 = .ok (.ireturn, 1) := by decide +kernel
theorem dX6_init_0 : decode cX6_init 0 = .ok (.aload_n 0, 1) := by decide +kernel
theorem dX6_init_1 : decode cX6_init 1 = .ok (.invokespecial 1, 3) := by decide +kernel
theorem dX6_init_4 : decode cX6_init 4 = .ok (.aload_n 0, 1) := by decide +kernel
theorem dX6_init_5 : decode cX6_init 5 = .ok (.iconst 3, 1) := by decide +kernel
theorem dX6_init_6 : decode cX6_init 6 = .ok (.newarray .int, 2) := by decide +kernel
theorem dX6_init_8 : decode cX6_init 8 = .ok (.putfield 9, 3) := by decide +kernel
theorem dX6_init_11 : decode cX6_init 11 = .ok (.aload_n 0, 1) := by decide +kernel
theorem dX6_init_12 : decode cX6_init 12 = .ok (.iconst 3, 1) := by decide +kernel
theorem dX6_init_13 : decode cX6_init 13 = .ok (.newarray .int, 2) := by decide +kernel
theorem dX6_init_15 : decode cX6_init 15 = .ok (.putfield 13, 3) := by decide +kernel
theorem dX6_init_18 : decode cX6_init 18 = .ok (.aload_n 0, 1) := by decide +kernel
theorem dX6_init_19 : decode cX6_init 19 = .ok (.iconst 3, 1) := by decide +kernel
theorem dX6_init_20 : decode cX6_init 20 = .ok (.newarray .int, 2) := by decide +kernel
theorem dX6_init_22 : decode cX6_init 22 = .ok (.putfield 16, 3) := by decide +kernel
theorem dX6_init_25 : decode cX6_init 25 = .ok (.return_, 1) := by decide +kernel
theorem dX6_measure_0 : decode cX6_measure 0 = .ok (.aload_n 0, 1) := by decide +kernel
theorem dX6_measure_1 : decode cX6_measure 1 = .ok (.getfield 9, 3) := by decide +kernel
theorem dX6_measure_4 : decode cX6_measure 4 = .ok (.iconst 0, 1) := by decide +kernel
theorem dX6_measure_5 : decode cX6_measure 5 = .ok (.iload_n 1, 1) := by decide +kernel
theorem dX6_measure_6 : decode cX6_measure 6 = .ok (.iastore, 1) := by decide +kernel
theorem dX6_measure_7 : decode cX6_measure 7 = .ok (.aload_n 0, 1) := by decide +kernel
theorem dX6_measure_8 : decode cX6_measure 8 = .ok (.getfield 13, 3) := by decide +kernel
theorem dX6_measure_11 : decode cX6_measure 11 = .ok (.iconst 0, 1) := by decide +kernel
theorem dX6_measure_12 : decode cX6_measure 12 = .ok (.iload_n 2, 1) := by decide +kernel
theorem dX6_measure_13 : decode cX6_measure 13 = .ok (.iastore, 1) := by decide +kernel
theorem dX6_measure_14 : decode cX6_measure 14 = .ok (.aload_n 0, 1) := by decide +kernel
theorem dX6_measure_15 : decode cX6_measure 15 = .ok (.getfield 16, 3) := by decide +kernel
theorem dX6_measure_18 : decode cX6_measure 18 = .ok (.iconst 0, 1) := by decide +kernel
theorem dX6_measure_19 : decode cX6_measure 19 = .ok (.iload_n 3, 1) := by decide +kernel
theorem dX6_measure_20 : decode cX6_measure 20 = .ok (.iastore, 1) := by decide +kernel
theorem dX6_measure_21 : decode cX6_measure 21 = .ok (.aload_n 0, 1) := by decide +kernel
theorem dX6_measure_22 : decode cX6_measure 22 = .ok (.getfield 9, 3) := by decide +kernel
theorem dX6_measure_25 : decode cX6_measure 25 = .ok (.iconst 1, 1) := by decide +kernel
theorem dX6_measure_26 : decode cX6_measure 26 = .ok (.iload_n 1, 1) := by decide +kernel
theorem dX6_measure_27 : decode cX6_measure 27 = .ok (.iastore, 1) := by decide +kernel
theorem dX6_measure_28 : decode cX6_measure 28 = .ok (.aload_n 0, 1) := by decide +kernel
theorem dX6_measure_29 : decode cX6_measure 29 = .ok (.getfield 13, 3) := by decide +kernel
theorem dX6_measure_32 : decode cX6_measure 32 = .ok (.iconst 1, 1) := by decide +kernel
theorem dX6_measure_33 : decode cX6_measure 33 = .ok (.iload_n 3, 1) := by decide +kernel
theorem dX6_measure_34 : decode cX6_measure 34 = .ok (.iastore, 1) := by decide +kernel
theorem dX6_measure_35 : decode cX6_measure 35 = .ok (.aload_n 0, 1) := by decide +kernel
theorem dX6_measure_36 : decode cX6_measure 36 = .ok (.getfield 16, 3) := by decide +kernel
theorem dX6_measure_39 : decode cX6_measure 39 = .ok (.iconst 1, 1) := by decide +kernel
theorem dX6_measure_40 : decode cX6_measure 40 = .ok (.iload_n 2, 1) := by decide +kernel
theorem dX6_measure_41 : decode cX6_measure 41 = .ok (.iastore, 1) := by decide +kernel
theorem dX6_measure_42 : decode cX6_measure 42 = .ok (.aload_n 0, 1) := by decide +kernel
theorem dX6_measure_43 : decode cX6_measure 43 = .ok (.getfield 9, 3) := by decide +kernel
theorem dX6_measure_46 : decode cX6_measure 46 = .ok (.iconst 2, 1) := by decide +kernel
theorem dX6_measure_47 : decode cX6_measure 47 = .ok (.iload_n 3, 1) := by decide +kernel
theorem dX6_measure_48 : decode cX6_measure 48 = .ok (.iastore, 1) := by decide +kernel
theorem dX6_measure_49 : decode cX6_measure 49 = .ok (.aload_n 0, 1) := by decide +kernel
theorem dX6_measure_50 : decode cX6_measure 50 = .ok (.getfield 13, 3) := by decide +kernel
theorem dX6_measure_53 : decode cX6_measure 53 = .ok (.iconst 2, 1) := by decide +kernel
theorem dX6_measure_54 : decode cX6_measure 54 = .ok (.iload_n 2, 1) := by decide +kernel
theorem dX6_measure_55 : decode cX6_measure 55 = .ok (.iastore, 1) := by decide +kernel
theorem dX6_measure_56 : decode cX6_measure 56 = .ok (.aload_n 0, 1) := by decide +kernel
theorem dX6_measure_57 : decode cX6_measure 57 = .ok (.getfield 16, 3) := by decide +kernel
theorem dX6_measure_60 : decode cX6_measure 60 = .ok (.iconst 2, 1) := by decide +kernel
theorem dX6_measure_61 : decode cX6_measure 61 = .ok (.iload_n 1, 1) := by decide +kernel
theorem dX6_measure_62 : decode cX6_measure 62 = .ok (.iastore, 1) := by decide +kernel
theorem dX6_measure_63 : decode cX6_measure 63 = .ok (.return_, 1) := by decide +kernel
theorem dX6_narrowest_0 : decode cX6_narrowest 0 = .ok (.aload_n 0, 1) := by decide +kernel
theorem dX6_narrowest_1 : decode cX6_narrowest 1 = .ok (.getfield 19, 3) := by decide +kernel
theorem dX6_narrowest_4 : decode cX6_narrowest 4 = .ok (.ifCond .eq 27, 3) := by decide +kernel
theorem dX6_narrowest_7 : decode cX6_narrowest 7 = .ok (.aload_n 0, 1) := by decide +kernel
theorem dX6_narrowest_8 : decode cX6_narrowest 8 = .ok (.getfield 13, 3) := by decide +kernel
theorem dX6_narrowest_11 : decode cX6_narrowest 11 = .ok (.iconst 1, 1) := by decide +kernel
theorem dX6_narrowest_12 : decode cX6_narrowest 12 = .ok (.iaload, 1) := by decide +kernel
theorem dX6_narrowest_13 : decode cX6_narrowest 13 = .ok (.aload_n 0, 1) := by decide +kernel
theorem dX6_narrowest_14 : decode cX6_narrowest 14 = .ok (.getfield 13, 3) := by decide +kernel
theorem dX6_narrowest_17 : decode cX6_narrowest 17 = .ok (.iconst 0, 1) := by decide +kernel
theorem dX6_narrowest_18 : decode cX6_narrowest 18 = .ok (.iaload, 1) := by decide +kernel
theorem dX6_narrowest_19 : decode cX6_narrowest 19 = .ok (.if_icmp .ge 12, 3) := by decide +kernel
theorem dX6_narrowest_22 : decode cX6_narrowest 22 = .ok (.aload_n 0, 1) := by decide +kernel
theorem dX6_narrowest_23 : decode cX6_narrowest 23 = .ok (.getfield 13, 3) := by decide +kernel
theorem dX6_narrowest_26 : decode cX6_narrowest 26 = .ok (.iconst 1, 1) := by decide +kernel
theorem dX6_narrowest_27 : decode cX6_narrowest 27 = .ok (.iaload, 1) := by decide +kernel
theorem dX6_narrowest_28 : decode cX6_narrowest 28 = .ok (.goto 9, 3) := by decide +kernel
theorem dX6_narrowest_31 : decode cX6_narrowest 31 = .ok (.aload_n 0, 1) := by decide +kernel
theorem dX6_narrowest_32 : decode cX6_narrowest 32 = .ok (.getfield 13, 3) := by decide +kernel
theorem dX6_narrowest_35 : decode cX6_narrowest 35 = .ok (.iconst 0, 1) := by decide +kernel
theorem dX6_narrowest_36 : decode cX6_narrowest 36 = .ok (.iaload, 1) := by decide +kernel
theorem dX6_narrowest_37 : decode cX6_narrowest 37 = .ok (.ireturn, 1) := by decide +kernel
theorem dX7_init_0 : decode cX7_init 0 = .ok (.aload_n 0, 1) := by decide +kernel
theorem dX7_init_1 : decode cX7_init 1 = .ok (.invokespecial 1, 3) := by decide +kernel
theorem dX7_init_4 : decode cX7_init 4 = .ok (.aload_n 0, 1) := by decide +kernel
theorem dX7_init_5 : decode cX7_init 5 = .ok (.iconst 5, 1) := by decide +kernel
theorem dX7_init_6 : decode cX7_init 6 = .ok (.newarray .int, 2) := by decide +kernel
theorem dX7_init_8 : decode cX7_init 8 = .ok (.putfield 9, 3) := by decide +kernel
theorem dX7_init_11 : decode cX7_init 11 = .ok (.return_, 1) := by decide +kernel
theorem dX7_isBeatenBy_0 : decode cX7_isBeatenBy 0 = .ok (.aload_n 0, 1) := by decide +kernel
theorem dX7_isBeatenBy_1 : decode cX7_isBeatenBy 1 = .ok (.getfield 15, 3) := by decide +kernel
theorem dX7_isBeatenBy_4 : decode cX7_isBeatenBy 4 = .ok (.ifCond .eq 27, 3) := by decide +kernel
theorem dX7_isBeatenBy_7 : decode cX7_isBeatenBy 7 = .ok (.iload_n 1, 1) := by decide +kernel
theorem dX7_isBeatenBy_8 : decode cX7_isBeatenBy 8 = .ok (.aload_n 0, 1) := by decide +kernel
theorem dX7_isBeatenBy_9 : decode cX7_isBeatenBy 9 = .ok (.getfield 19, 3) := by decide +kernel
theorem dX7_isBeatenBy_12 : decode cX7_isBeatenBy 12 = .ok (.if_icmp .lt 19, 3) := by decide +kernel
theorem dX7_isBeatenBy_15 : decode cX7_isBeatenBy 15 = .ok (.iload_n 1, 1) := by decide +kernel
theorem dX7_isBeatenBy_16 : decode cX7_isBeatenBy 16 = .ok (.aload_n 0, 1) := by decide +kernel
theorem dX7_isBeatenBy_17 : decode cX7_isBeatenBy 17 = .ok (.getfield 19, 3) := by decide +kernel
theorem dX7_isBeatenBy_20 : decode cX7_isBeatenBy 20 = .ok (.if_icmp .ne 15, 3) := by decide +kernel
theorem dX7_isBeatenBy_23 : decode cX7_isBeatenBy 23 = .ok (.iload_n 2, 1) := by decide +kernel
theorem dX7_isBeatenBy_24 : decode cX7_isBeatenBy 24 = .ok (.aload_n 0, 1) := by decide +kernel
theorem dX7_isBeatenBy_25 : decode cX7_isBeatenBy 25 = .ok (.getfield 23, 3) := by decide +kernel
theorem dX7_isBeatenBy_28 : decode cX7_isBeatenBy 28 = .ok (.if_icmp .ge 7, 3) := by decide +kernel
theorem dX7_isBeatenBy_31 : decode cX7_isBeatenBy 31 = .ok (.iconst 1, 1) := by decide +kernel
theorem dX7_isBeatenBy_32 : decode cX7_isBeatenBy 32 = .ok (.goto 4, 3) := by decide +kernel
theorem dX7_isBeatenBy_35 : decode cX7_isBeatenBy 35 = .ok (.iconst 0, 1) := by decide +kernel
theorem dX7_isBeatenBy_36 : decode cX7_isBeatenBy 36 = .ok (.ireturn, 1) := by decide +kernel
