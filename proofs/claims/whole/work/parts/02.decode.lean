/-! decode rows, as printed -/
theorem dX0_init_0 : decode cX0_init 0 = .ok (.aload_n 0, 1) := by decide +kernel
theorem dX0_init_1 : decode cX0_init 1 = .ok (.invokespecial 3, 3) := by decide +kernel
theorem dX0_init_4 : decode cX0_init 4 = .ok (.aload_n 0, 1) := by decide +kernel
theorem dX0_init_5 : decode cX0_init 5 = .ok (.bipush 14, 2) := by decide +kernel
theorem dX0_init_7 : decode cX0_init 7 = .ok (.anewarray 9, 3) := by decide +kernel
theorem dX0_init_10 : decode cX0_init 10 = .ok (.putfield 11, 3) := by decide +kernel
theorem dX0_init_13 : decode cX0_init 13 = .ok (.aload_n 0, 1) := by decide +kernel
theorem dX0_init_14 : decode cX0_init 14 = .ok (.iconst 0, 1) := by decide +kernel
theorem dX0_init_15 : decode cX0_init 15 = .ok (.putfield 17, 3) := by decide +kernel
theorem dX0_init_18 : decode cX0_init 18 = .ok (.iconst 0, 1) := by decide +kernel
theorem dX0_init_19 : decode cX0_init 19 = .ok (.istore_n 2, 1) := by decide +kernel
theorem dX0_init_20 : decode cX0_init 20 = .ok (.iload_n 2, 1) := by decide +kernel
theorem dX0_init_21 : decode cX0_init 21 = .ok (.bipush 14, 2) := by decide +kernel
theorem dX0_init_23 : decode cX0_init 23 = .ok (.if_icmp .ge 23, 3) := by decide +kernel
theorem dX0_init_26 : decode cX0_init 26 = .ok (.aload_n 0, 1) := by decide +kernel
theorem dX0_init_27 : decode cX0_init 27 = .ok (.getfield 11, 3) := by decide +kernel
theorem dX0_init_30 : decode cX0_init 30 = .ok (.iload_n 2, 1) := by decide +kernel
theorem dX0_init_31 : decode cX0_init 31 = .ok (.new 9, 3) := by decide +kernel
theorem dX0_init_34 : decode cX0_init 34 = .ok (.dup, 1) := by decide +kernel
theorem dX0_init_35 : decode cX0_init 35 = .ok (.aload_n 1, 1) := by decide +kernel
theorem dX0_init_36 : decode cX0_init 36 = .ok (.invokespecial 21, 3) := by decide +kernel
theorem dX0_init_39 : decode cX0_init 39 = .ok (.aastore, 1) := by decide +kernel
theorem dX0_init_40 : decode cX0_init 40 = .ok (.iinc 2 1, 3) := by decide +kernel
theorem dX0_init_43 : decode cX0_init 43 = .ok (.goto (-23), 3) := by decide +kernel
theorem dX0_init_46 : decode cX0_init 46 = .ok (.return_, 1) := by decide +kernel
theorem dX0_remember_0 : decode cX0_remember 0 = .ok (.aload_n 0, 1) := by decide +kernel
theorem dX0_remember_1 : decode cX0_remember 1 = .ok (.getfield 17, 3) := by decide +kernel
theorem dX0_remember_4 : decode cX0_remember 4 = .ok (.bipush 14, 2) := by decide +kernel
theorem dX0_remember_6 : decode cX0_remember 6 = .ok (.if_icmp .lt 7, 3) := by decide +kernel
theorem dX0_remember_9 : decode cX0_remember 9 = .ok (.aload_n 0, 1) := by decide +kernel
theorem dX0_remember_10 : decode cX0_remember 10 = .ok (.invokevirtual 24, 3) := by decide +kernel
theorem dX0_remember_13 : decode cX0_remember 13 = .ok (.aload_n 0, 1) := by decide +kernel
theorem dX0_remember_14 : decode cX0_remember 14 = .ok (.getfield 11, 3) := by decide +kernel
theorem dX0_remember_17 : decode cX0_remember 17 = .ok (.aload_n 0, 1) := by decide +kernel
theorem dX0_remember_18 : decode cX0_remember 18 = .ok (.getfield 17, 3) := by decide +kernel
theorem dX0_remember_21 : decode cX0_remember 21 = .ok (.aaload, 1) := by decide +kernel
theorem dX0_remember_22 : decode cX0_remember 22 = .ok (.aload_n 1, 1) := by decide +kernel
theorem dX0_remember_23 : decode cX0_remember 23 = .ok (.invokevirtual 27, 3) := by decide +kernel
theorem dX0_remember_26 : decode cX0_remember 26 = .ok (.aload_n 0, 1) := by decide +kernel
theorem dX0_remember_27 : decode cX0_remember 27 = .ok (.dup, 1) := by decide +kernel
theorem dX0_remember_28 : decode cX0_remember 28 = .ok (.getfield 17, 3) := by decide +kernel
theorem dX0_remember_31 : decode cX0_remember 31 = .ok (.iconst 1, 1) := by decide +kernel
theorem dX0_remember_32 : decode cX0_remember 32 = .ok (.iadd, 1) := by decide +kernel
theorem dX0_remember_33 : decode cX0_remember 33 = .ok (.putfield 17, 3) := by decide +kernel
theorem dX0_remember_36 : decode cX0_remember 36 = .ok (.return_, 1) := by decide +kernel
theorem dX0_forgetFirst_0 : decode cX0_forgetFirst 0 = .ok (.aload_n 0, 1) := by decide +kernel
theorem dX0_forgetFirst_1 : decode cX0_forgetFirst 1 = .ok (.getfield 11, 3) := by decide +kernel
theorem dX0_forgetFirst_4 : decode cX0_forgetFirst 4 = .ok (.iconst 0, 1) := by decide +kernel
theorem dX0_forgetFirst_5 : decode cX0_forgetFirst 5 = .ok (.aaload, 1) := by decide +kernel
theorem dX0_forgetFirst_6 : decode cX0_forgetFirst 6 = .ok (.astore_n 1, 1) := by decide +kernel
theorem dX0_forgetFirst_7 : decode cX0_forgetFirst 7 = .ok (.iconst 1, 1) := by decide +kernel
theorem dX0_forgetFirst_8 : decode cX0_forgetFirst 8 = .ok (.istore_n 2, 1) := by decide +kernel
theorem dX0_forgetFirst_9 : decode cX0_forgetFirst 9 = .ok (.iload_n 2, 1) := by decide +kernel
theorem dX0_forgetFirst_10 : decode cX0_forgetFirst 10 = .ok (.bipush 14, 2) := by decide +kernel
theorem dX0_forgetFirst_12 : decode cX0_forgetFirst 12 = .ok (.if_icmp .ge 23, 3) := by decide +kernel
theorem dX0_forgetFirst_15 : decode cX0_forgetFirst 15 = .ok (.aload_n 0, 1) := by decide +kernel
theorem dX0_forgetFirst_16 : decode cX0_forgetFirst 16 = .ok (.getfield 11, 3) := by decide +kernel
theorem dX0_forgetFirst_19 : decode cX0_forgetFirst 19 = .ok (.iload_n 2, 1) := by decide +kernel
theorem dX0_forgetFirst_20 : decode cX0_forgetFirst 20 = .ok (.iconst 1, 1) := by decide +kernel
theorem dX0_forgetFirst_21 : decode cX0_forgetFirst 21 = .ok (.isub, 1) := by decide +kernel
theorem dX0_forgetFirst_22 : decode cX0_forgetFirst 22 = .ok (.aload_n 0, 1) := by decide +kernel
theorem dX0_forgetFirst_23 : decode cX0_forgetFirst 23 = .ok (.getfield 11, 3) := by decide +kernel
theorem dX0_forgetFirst_26 : decode cX0_forgetFirst 26 = .ok (.iload_n 2, 1) := by decide +kernel
theorem dX0_forgetFirst_27 : decode cX0_forgetFirst 27 = .ok (.aaload, 1) := by decide +kernel
theorem dX0_forgetFirst_28 : decode cX0_forgetFirst 28 = .ok (.aastore, 1) := by decide +kernel
theorem dX0_forgetFirst_29 : decode cX0_forgetFirst 29 = .ok (.iinc 2 1, 3) := by decide +kernel
theorem dX0_forgetFirst_32 : decode cX0_forgetFirst 32 = .ok (.goto (-23), 3) := by decide +kernel
theorem dX0_forgetFirst_35 : decode cX0_forgetFirst 35 = .ok (.aload_n 0, 1) := by decide +kernel
theorem dX0_forgetFirst_36 : decode cX0_forgetFirst 36 = .ok (.getfield 11, 3) := by decide +kernel
theorem dX0_forgetFirst_39 : decode cX0_forgetFirst 39 = .ok (.bipush 13, 2) := by decide +kernel
theorem dX0_forgetFirst_41 : decode cX0_forgetFirst 41 = .ok (.aload_n 1, 1) := by decide +kernel
theorem dX0_forgetFirst_42 : decode cX0_forgetFirst 42 = .ok (.aastore, 1) := by decide +kernel
theorem dX0_forgetFirst_43 : decode cX0_forgetFirst 43 = .ok (.aload_n 0, 1) := by decide +kernel
theorem dX0_forgetFirst_44 : decode cX0_forgetFirst 44 = .ok (.bipush 13, 2) := by decide +kernel
theorem dX0_forgetFirst_46 : decode cX0_forgetFirst 46 = .ok (.putfield 17, 3) := by decide +kernel
theorem dX0_forgetFirst_49 : decode cX0_forgetFirst 49 = .ok (.return_, 1) := by decide +kernel
theorem dX0_takeBack_0 : decode cX0_takeBack 0 = .ok (.aload_n 0, 1) := by decide +kernel
theorem dX0_takeBack_1 : decode cX0_takeBack 1 = .ok (.getfield 17, 3) := by decide +kernel
theorem dX0_takeBack_4 : decode cX0_takeBack 4 = .ok (.ifCond .le 26, 3) := by decide +kernel
theorem dX0_takeBack_7 : decode cX0_takeBack 7 = .ok (.aload_n 0, 1) := by decide +kernel
theorem dX0_takeBack_8 : decode cX0_takeBack 8 = .ok (.dup, 1) := by decide +kernel
theorem dX0_takeBack_9 : decode cX0_takeBack 9 = .ok (.getfield 17, 3) := by decide +kernel
theorem dX0_takeBack_12 : decode cX0_takeBack 12 = .ok (.iconst 1, 1) := by decide +kernel
theorem dX0_takeBack_13 : decode cX0_takeBack 13 = .ok (.isub, 1) := by decide +kernel
theorem dX0_takeBack_14 : decode cX0_takeBack 14 = .ok (.putfield 17, 3) := by decide +kernel
theorem dX0_takeBack_17 : decode cX0_takeBack 17 = .ok (.aload_n 1, 1) := by decide +kernel
theorem dX0_takeBack_18 : decode cX0_takeBack 18 = .ok (.aload_n 0, 1) := by decide +kernel
theorem dX0_takeBack_19 : decode cX0_takeBack 19 = .ok (.getfield 11, 3) := by decide +kernel
theorem dX0_takeBack_22 : decode cX0_takeBack 22 = .ok (.aload_n 0, 1) := by decide +kernel
theorem dX0_takeBack_23 : decode cX0_takeBack 23 = .ok (.getfield 17, 3) := by decide +kernel
theorem dX0_takeBack_26 : decode cX0_takeBack 26 = .ok (.aaload, 1) := by decide +kernel
theorem dX0_takeBack_27 : decode cX0_takeBack 27 = .ok (.invokevirtual 27, 3) := by decide +kernel
theorem dX0_takeBack_30 : decode cX0_takeBack 30 = .ok (.return_, 1) := by decide +kernel
theorem dX1_init_0 : decode cX1_init 0 = .ok (.aload_n 0, 1) := by decide +kernel
theorem dX1_init_1 : decode cX1_init 1 = .ok (.invokespecial 3, 3) := by decide +kernel
theorem dX1_init_4 : decode cX1_init 4 = .ok (.aload_n 0, 1) := by decide +kernel
theorem dX1_init_5 : decode cX1_init 5 = .ok (.bipush 64, 2) := by decide +kernel
theorem dX1_init_7 : decode cX1_init 7 = .ok (.newarray .int, 2) := by decide +kernel
theorem dX1_init_9 : decode cX1_init 9 = .ok (.putfield 9, 3) := by decide +kernel
theorem dX1_init_12 : decode cX1_init 12 = .ok (.aload_n 0, 1) := by decide +kernel
theorem dX1_init_13 : decode cX1_init 13 = .ok (.iconst 0, 1) := by decide +kernel
theorem dX1_init_14 : decode cX1_init 14 = .ok (.putfield 15, 3) := by decide +kernel
theorem dX1_init_17 : decode cX1_init 17 = .ok (.aload_n 0, 1) := by decide +kernel
theorem dX1_init_18 : decode cX1_init 18 = .ok (.aload_n 1, 1) := by decide +kernel
theorem dX1_init_19 : decode cX1_init 19 = .ok (.putfield 19, 3) := by decide +kernel
theorem dX1_init_22 : decode cX1_init 22 = .ok (.return_, 1) := by decide +kernel
theorem dX1_shareOf_0 : decode cX1_shareOf 0 = .ok (.aload_n 0, 1) := by decide +kernel
theorem dX1_shareOf_1 : decode cX1_shareOf 1 = .ok (.invokevirtual 23, 3) := by decide +kernel
theorem dX1_shareOf_4 : decode cX1_shareOf 4 = .ok (.iconst 1, 1) := by decide +kernel
theorem dX1_shareOf_5 : decode cX1_shareOf 5 = .ok (.iload_n 1, 1) := by decide +kernel
theorem dX1_shareOf_6 : decode cX1_shareOf 6 = .ok (.ishl, 1) := by decide +kernel
theorem dX1_shareOf_7 : decode cX1_shareOf 7 = .ok (.istore_n 3, 1) := by decide +kernel
theorem dX1_shareOf_8 : decode cX1_shareOf 8 = .ok (.iconst 0, 1) := by decide +kernel
theorem dX1_shareOf_9 : decode cX1_shareOf 9 = .ok (.istore 4, 2) := by decide +kernel
theorem dX1_shareOf_11 : decode cX1_shareOf 11 = .ok (.iconst 0, 1) := by decide +kernel
theorem dX1_shareOf_12 : decode cX1_shareOf 12 = .ok (.istore 5, 2) := by decide +kernel
theorem dX1_shareOf_14 : decode cX1_shareOf 14 = .ok (.iload 5, 2) := by decide +kernel
theorem dX1_shareOf_16 : decode cX1_shareOf 16 = .ok (.iconst 1, 1) := by decide +kernel
theorem dX1_shareOf_17 : decode cX1_shareOf 17 = .ok (.aload_n 0, 1) := by decide +kernel
theorem dX1_shareOf_18 : decode cX1_shareOf 18 = .ok (.getfield 19, 3) := by decide +kernel
theorem dX1_shareOf_21 : decode cX1_shareOf 21 = .ok (.getfield 26, 3) := by decide +kernel
theorem dX1_shareOf_24 : decode cX1_shareOf 24 = .ok (.ishl, 1) := by decide +kernel
theorem dX1_shareOf_25 : decode cX1_shareOf 25 = .ok (.if_icmp .ge 79, 3) := by decide +kernel
theorem dX1_shareOf_28 : decode cX1_shareOf 28 = .ok (.iload 5, 2) := by decide +kernel
theorem dX1_shareOf_30 : decode cX1_shareOf 30 = .ok (.iload_n 3, 1) := by decide +kernel
theorem dX1_shareOf_31 : decode cX1_shareOf 31 = .ok (.iand, 1) := by decide +kernel
theorem dX1_shareOf_32 : decode cX1_shareOf 32 = .ok (.ifCond .eq 66, 3) := by decide +kernel
theorem dX1_shareOf_35 : decode cX1_shareOf 35 = .ok (.iload 5, 2) := by decide +kernel
theorem dX1_shareOf_37 : decode cX1_shareOf 37 = .ok (.invokestatic 32, 3) := by decide +kernel
theorem dX1_shareOf_40 : decode cX1_shareOf 40 = .ok (.iconst 1, 1) := by decide +kernel
theorem dX1_shareOf_41 : decode cX1_shareOf 41 = .ok (.isub, 1) := by decide +kernel
theorem dX1_shareOf_42 : decode cX1_shareOf 42 = .ok (.istore 6, 2) := by decide +kernel
theorem dX1_shareOf_44 : decode cX1_shareOf 44 = .ok (.aload_n 0, 1) := by decide +kernel
theorem dX1_shareOf_45 : decode cX1_shareOf 45 = .ok (.getfield 19, 3) := by decide +kernel
theorem dX1_shareOf_48 : decode cX1_shareOf 48 = .ok (.getfield 26, 3) := by decide +kernel
theorem dX1_shareOf_51 : decode cX1_shareOf 51 = .ok (.iconst 1, 1) := by decide +kernel
theorem dX1_shareOf_52 : decode cX1_shareOf 52 = .ok (.isub, 1) := by decide +kernel
theorem dX1_shareOf_53 : decode cX1_shareOf 53 = .ok (.iload 6, 2) := by decide +kernel
theorem dX1_shareOf_55 : decode cX1_shareOf 55 = .ok (.isub, 1) := by decide +kernel
theorem dX1_shareOf_56 : decode cX1_shareOf 56 = .ok (.istore 7, 2) := by decide +kernel
theorem dX1_shareOf_58 : decode cX1_shareOf 58 = .ok (.aload_n 0, 1) := by decide +kernel
theorem dX1_shareOf_59 : decode cX1_shareOf 59 = .ok (.getfield 9, 3) := by decide +kernel
theorem dX1_shareOf_62 : decode cX1_shareOf 62 = .ok (.iload 5, 2) := by decide +kernel
theorem dX1_shareOf_64 : decode cX1_shareOf 64 = .ok (.iaload, 1) := by decide +kernel
theorem dX1_shareOf_65 : decode cX1_shareOf 65 = .ok (.aload_n 0, 1) := by decide +kernel
theorem dX1_shareOf_66 : decode cX1_shareOf 66 = .ok (.getfield 9, 3) := by decide +kernel
theorem dX1_shareOf_69 : decode cX1_shareOf 69 = .ok (.iload 5, 2) := by decide +kernel
theorem dX1_shareOf_71 : decode cX1_shareOf 71 = .ok (.iload_n 3, 1) := by decide +kernel
theorem dX1_shareOf_72 : decode cX1_shareOf 72 = .ok (.ixor, 1) := by decide +kernel
theorem dX1_shareOf_73 : decode cX1_shareOf 73 = .ok (.iaload, 1) := by decide +kernel
theorem dX1_shareOf_74 : decode cX1_shareOf 74 = .ok (.isub, 1) := by decide +kernel
theorem dX1_shareOf_75 : decode cX1_shareOf 75 = .ok (.istore 8, 2) := by decide +kernel
theorem dX1_shareOf_77 : decode cX1_shareOf 77 = .ok (.iload 4, 2) := by decide +kernel
theorem dX1_shareOf_79 : decode cX1_shareOf 79 = .ok (.getstatic 38, 3) := by decide +kernel
theorem dX1_shareOf_82 : decode cX1_shareOf 82 = .ok (.iload 7, 2) := by decide +kernel
theorem dX1_shareOf_84 : decode cX1_shareOf 84 = .ok (.iaload, 1) := by decide +kernel
theorem dX1_shareOf_85 : decode cX1_shareOf 85 = .ok (.getstatic 38, 3) := by decide +kernel
theorem dX1_shareOf_88 : decode cX1_shareOf 88 = .ok (.iload 6, 2) := by decide +kernel
theorem dX1_shareOf_90 : decode cX1_shareOf 90 = .ok (.iaload, 1) := by decide +kernel
theorem dX1_shareOf_91 : decode cX1_shareOf 91 = .ok (.imul, 1) := by decide +kernel
theorem dX1_shareOf_92 : decode cX1_shareOf 92 = .ok (.iload 8, 2) := by decide +kernel
theorem dX1_shareOf_94 : decode cX1_shareOf 94 = .ok (.imul, 1) := by decide +kernel
theorem dX1_shareOf_95 : decode cX1_shareOf 95 = .ok (.iadd, 1) := by decide +kernel
theorem dX1_shareOf_96 : decode cX1_shareOf 96 = .ok (.istore 4, 2) := by decide +kernel
theorem dX1_shareOf_98 : decode cX1_shareOf 98 = .ok (.iinc 5 1, 3) := by decide +kernel
theorem dX1_shareOf_101 : decode cX1_shareOf 101 = .ok (.goto (-87), 3) := by decide +kernel
theorem dX1_shareOf_104 : decode cX1_shareOf 104 = .ok (.iload 4, 2) := by decide +kernel
theorem dX1_shareOf_106 : decode cX1_shareOf 106 = .ok (.getstatic 38, 3) := by decide +kernel
theorem dX1_shareOf_109 : decode cX1_shareOf 109 = .ok (.aload_n 0, 1) := by decide +kernel
theorem dX1_shareOf_110 : decode cX1_shareOf 110 = .ok (.getfield 19, 3) := by decide +kernel
theorem dX1_shareOf_113 : decode cX1_shareOf 113 = .ok (.getfield 26, 3) := by decide +kernel
theorem dX1_shareOf_116 : decode cX1_shareOf 116 = .ok (.iaload, 1) := by decide +kernel
theorem dX1_shareOf_117 : decode cX1_shareOf 117 = .ok (.iload_n 2, 1) := by decide +kernel
theorem dX1_shareOf_118 : decode cX1_shareOf 118 = .ok (.invokestatic 41, 3) := by decide +kernel
theorem dX1_shareOf_121 : decode cX1_shareOf 121 = .ok (.ireturn, 1) := by decide +kernel
theorem dX1_chanceOf_0 : decode cX1_chanceOf 0 = .ok (.aload_n 0, 1) := by decide +kernel
theorem dX1_chanceOf_1 : decode cX1_chanceOf 1 = .ok (.invokevirtual 23, 3) := by decide +kernel
theorem dX1_chanceOf_4 : decode cX1_chanceOf 4 = .ok (.iconst 0, 1) := by decide +kernel
theorem dX1_chanceOf_5 : decode cX1_chanceOf 5 = .ok (.istore 4, 2) := by decide +kernel
theorem dX1_chanceOf_7 : decode cX1_chanceOf 7 = .ok (.iconst 1, 1) := by decide +kernel
theorem dX1_chanceOf_8 : decode cX1_chanceOf 8 = .ok (.istore 5, 2) := by decide +kernel
theorem dX1_chanceOf_10 : decode cX1_chanceOf 10 = .ok (.iconst 0, 1) := by decide +kernel
theorem dX1_chanceOf_11 : decode cX1_chanceOf 11 = .ok (.istore 6, 2) := by decide +kernel
theorem dX1_chanceOf_13 : decode cX1_chanceOf 13 = .ok (.iload 6, 2) := by decide +kernel
theorem dX1_chanceOf_15 : decode cX1_chanceOf 15 = .ok (.aload_n 0, 1) := by decide +kernel
theorem dX1_chanceOf_16 : decode cX1_chanceOf 16 = .ok (.getfield 19, 3) := by decide +kernel
theorem dX1_chanceOf_19 : decode cX1_chanceOf 19 = .ok (.getfield 26, 3) := by decide +kernel
theorem dX1_chanceOf_22 : decode cX1_chanceOf 22 = .ok (.if_icmp .ge 16, 3) := by decide +kernel
theorem dX1_chanceOf_25 : decode cX1_chanceOf 25 = .ok (.iload 5, 2) := by decide +kernel
theorem dX1_chanceOf_27 : decode cX1_chanceOf 27 = .ok (.bipush 10, 2) := by decide +kernel
theorem dX1_chanceOf_29 : decode cX1_chanceOf 29 = .ok (.imul, 1) := by decide +kernel
theorem dX1_chanceOf_30 : decode cX1_chanceOf 30 = .ok (.istore 5, 2) := by decide +kernel
theorem dX1_chanceOf_32 : decode cX1_chanceOf 32 = .ok (.iinc 6 1, 3) := by decide +kernel
theorem dX1_chanceOf_35 : decode cX1_chanceOf 35 = .ok (.goto (-22), 3) := by decide +kernel
theorem dX1_chanceOf_38 : decode cX1_chanceOf 38 = .ok (.iconst 0, 1) := by decide +kernel
theorem dX1_chanceOf_39 : decode cX1_chanceOf 39 = .ok (.istore 6, 2) := by decide +kernel
theorem dX1_chanceOf_41 : decode cX1_chanceOf 41 = .ok (.iload 6, 2) := by decide +kernel
theorem dX1_chanceOf_43 : decode cX1_chanceOf 43 = .ok (.iconst 1, 1) := by decide +kernel
theorem dX1_chanceOf_44 : decode cX1_chanceOf 44 = .ok (.aload_n 0, 1) := by decide +kernel
theorem dX1_chanceOf_45 : decode cX1_chanceOf 45 = .ok (.getfield 19, 3) := by decide +kernel
theorem dX1_chanceOf_48 : decode cX1_chanceOf 48 = .ok (.getfield 26, 3) := by decide +kernel
theorem dX1_chanceOf_51 : decode cX1_chanceOf 51 = .ok (.ishl, 1) := by decide +kernel
theorem dX1_chanceOf_52 : decode cX1_chanceOf 52 = .ok (.if_icmp .ge 32, 3) := by decide +kernel
theorem dX1_chanceOf_55 : decode cX1_chanceOf 55 = .ok (.aload_n 0, 1) := by decide +kernel
theorem dX1_chanceOf_56 : decode cX1_chanceOf 56 = .ok (.getfield 9, 3) := by decide +kernel
theorem dX1_chanceOf_59 : decode cX1_chanceOf 59 = .ok (.iload 6, 2) := by decide +kernel
theorem dX1_chanceOf_61 : decode cX1_chanceOf 61 = .ok (.iaload, 1) := by decide +kernel
theorem dX1_chanceOf_62 : decode cX1_chanceOf 62 = .ok (.iload_n 1, 1) := by decide +kernel
theorem dX1_chanceOf_63 : decode cX1_chanceOf 63 = .ok (.if_icmp .lt 15, 3) := by decide +kernel
theorem dX1_chanceOf_66 : decode cX1_chanceOf 66 = .ok (.iload 4, 2) := by decide +kernel
theorem dX1_chanceOf_68 : decode cX1_chanceOf 68 = .ok (.aload_n 0, 1) := by decide +kernel
theorem dX1_chanceOf_69 : decode cX1_chanceOf 69 = .ok (.iload 6, 2) := by decide +kernel
theorem dX1_chanceOf_71 : decode cX1_chanceOf 71 = .ok (.iload_n 2, 1) := by decide +kernel
theorem dX1_chanceOf_72 : decode cX1_chanceOf 72 = .ok (.invokevirtual 45, 3) := by decide +kernel
theorem dX1_chanceOf_75 : decode cX1_chanceOf 75 = .ok (.iadd, 1) := by decide +kernel
theorem dX1_chanceOf_76 : decode cX1_chanceOf 76 = .ok (.istore 4, 2) := by decide +kernel
theorem dX1_chanceOf_78 : decode cX1_chanceOf 78 = .ok (.iinc 6 1, 3) := by decide +kernel
theorem dX1_chanceOf_81 : decode cX1_chanceOf 81 = .ok (.goto (-40), 3) := by decide +kernel
theorem dX1_chanceOf_84 : decode cX1_chanceOf 84 = .ok (.iload 4, 2) := by decide +kernel
theorem dX1_chanceOf_86 : decode cX1_chanceOf 86 = .ok (.iload 5, 2) := by decide +kernel
theorem dX1_chanceOf_88 : decode cX1_chanceOf 88 = .ok (.iload_n 3, 1) := by decide +kernel
theorem dX1_chanceOf_89 : decode cX1_chanceOf 89 = .ok (.invokestatic 41, 3) := by decide +kernel
theorem dX1_chanceOf_92 : decode cX1_chanceOf 92 = .ok (.ireturn, 1) := by decide +kernel
theorem dX1_weightOf_0 : decode cX1_weightOf 0 = .ok (.iconst 1, 1) := by decide +kernel
theorem dX1_weightOf_1 : decode cX1_weightOf 1 = .ok (.istore_n 3, 1) := by decide +kernel
theorem dX1_weightOf_2 : decode cX1_weightOf 2 = .ok (.iconst 0, 1) := by decide +kernel
theorem dX1_weightOf_3 : decode cX1_weightOf 3 = .ok (.istore 4, 2) := by decide +kernel
theorem dX1_weightOf_5 : decode cX1_weightOf 5 = .ok (.iload 4, 2) := by decide +kernel
theorem dX1_weightOf_7 : decode cX1_weightOf 7 = .ok (.aload_n 0, 1) := by decide +kernel
theorem dX1_weightOf_8 : decode cX1_weightOf 8 = .ok (.getfield 19, 3) := by decide +kernel
theorem dX1_weightOf_11 : decode cX1_weightOf 11 = .ok (.getfield 26, 3) := by decide +kernel
theorem dX1_weightOf_14 : decode cX1_weightOf 14 = .ok (.if_icmp .ge 30, 3) := by decide +kernel
theorem dX1_weightOf_17 : decode cX1_weightOf 17 = .ok (.iload_n 3, 1) := by decide +kernel
theorem dX1_weightOf_18 : decode cX1_weightOf 18 = .ok (.iload_n 1, 1) := by decide +kernel
theorem dX1_weightOf_19 : decode cX1_weightOf 19 = .ok (.iload 4, 2) := by decide +kernel
theorem dX1_weightOf_21 : decode cX1_weightOf 21 = .ok (.ishr, 1) := by decide +kernel
theorem dX1_weightOf_22 : decode cX1_weightOf 22 = .ok (.iconst 1, 1) := by decide +kernel
theorem dX1_weightOf_23 : decode cX1_weightOf 23 = .ok (.iand, 1) := by decide +kernel
theorem dX1_weightOf_24 : decode cX1_weightOf 24 = .ok (.iconst 1, 1) := by decide +kernel
theorem dX1_weightOf_25 : decode cX1_weightOf 25 = .ok (.if_icmp .ne 7, 3) := by decide +kernel
theorem dX1_weightOf_28 : decode cX1_weightOf 28 = .ok (.iload_n 2, 1) := by decide +kernel
theorem dX1_weightOf_29 : decode cX1_weightOf 29 = .ok (.goto 7, 3) := by decide +kernel
theorem dX1_weightOf_32 : decode cX1_weightOf 32 = .ok (.bipush 10, 2) := by decide +kernel
theorem dX1_weightOf_34 : decode cX1_weightOf 34 = .ok (.iload_n 2, 1) := by decide +kernel
theorem dX1_weightOf_35 : decode cX1_weightOf 35 = .ok (.isub, 1) := by decide +kernel
theorem dX1_weightOf_36 : decode cX1_weightOf 36 = .ok (.imul, 1) := by decide +kernel
theorem dX1_weightOf_37 : decode cX1_weightOf 37 = .ok (.istore_n 3, 1) := by decide +kernel
theorem dX1_weightOf_38 : decode cX1_weightOf 38 = .ok (.iinc 4 1, 3) := by decide +kernel
theorem dX1_weightOf_41 : decode cX1_weightOf 41 = .ok (.goto (-36), 3) := by decide +kernel
theorem dX1_weightOf_44 : decode cX1_weightOf 44 = .ok (.iload_n 3, 1) := by decide +kernel
theorem dX1_weightOf_45 : decode cX1_weightOf 45 = .ok (.ireturn, 1) := by decide +kernel
theorem dX1_countAll_0 : decode cX1_countAll 0 = .ok (.aload_n 0, 1) := by decide +kernel
theorem dX1_countAll_1 : decode cX1_countAll 1 = .ok (.getfield 15, 3) := by decide +kernel
theorem dX1_countAll_4 : decode cX1_countAll 4 = .ok (.ifCond .eq 4, 3) := by decide +kernel
theorem dX1_countAll_7 : decode cX1_countAll 7 = .ok (.return_, 1) := by decide +kernel
theorem dX1_countAll_8 : decode cX1_countAll 8 = .ok (.iconst 0, 1) := by decide +kernel
theorem dX1_countAll_9 : decode cX1_countAll 9 = .ok (.istore_n 1, 1) := by decide +kernel
theorem dX1_countAll_10 : decode cX1_countAll 10 = .ok (.iload_n 1, 1) := by decide +kernel
theorem dX1_countAll_11 : decode cX1_countAll 11 = .ok (.bipush 64, 2) := by decide +kernel
theorem dX1_countAll_13 : decode cX1_countAll 13 = .ok (.if_icmp .ge 16, 3) := by decide +kernel
theorem dX1_countAll_16 : decode cX1_countAll 16 = .ok (.aload_n 0, 1) := by decide +kernel
theorem dX1_countAll_17 : decode cX1_countAll 17 = .ok (.getfield 9, 3) := by decide +kernel
theorem dX1_countAll_20 : decode cX1_countAll 20 = .ok (.iload_n 1, 1) := by decide +kernel
theorem dX1_countAll_21 : decode cX1_countAll 21 = .ok (.iconst 0, 1) := by decide +kernel
theorem dX1_countAll_22 : decode cX1_countAll 22 = .ok (.iastore, 1) := by decide +kernel
theorem dX1_countAll_23 : decode cX1_countAll 23 = .ok (.iinc 1 1, 3) := by decide +kernel
theorem dX1_countAll_26 : decode cX1_countAll 26 = .ok (.goto (-16), 3) := by decide +kernel
theorem dX1_countAll_29 : decode cX1_countAll 29 = .ok (.iconst 0, 1) := by decide +kernel
theorem dX1_countAll_30 : decode cX1_countAll 30 = .ok (.istore_n 1, 1) := by decide +kernel
theorem dX1_countAll_31 : decode cX1_countAll 31 = .ok (.iload_n 1, 1) := by decide +kernel
theorem dX1_countAll_32 : decode cX1_countAll 32 = .ok (.aload_n 0, 1) := by decide +kernel
theorem dX1_countAll_33 : decode cX1_countAll 33 = .ok (.getfield 19, 3) := by decide +kernel
theorem dX1_countAll_36 : decode cX1_countAll 36 = .ok (.getfield 49, 3) := by decide +kernel
theorem dX1_countAll_39 : decode cX1_countAll 39 = .ok (.iconst 0, 1) := by decide +kernel
theorem dX1_countAll_40 : decode cX1_countAll 40 = .ok (.iaload, 1) := by decide +kernel
theorem dX1_countAll_41 : decode cX1_countAll 41 = .ok (.if_icmp .gt 92, 3) := by decide +kernel
theorem dX1_countAll_44 : decode cX1_countAll 44 = .ok (.iconst 0, 1) := by decide +kernel
theorem dX1_countAll_45 : decode cX1_countAll 45 = .ok (.istore_n 2, 1) := by decide +kernel
theorem dX1_countAll_46 : decode cX1_countAll 46 = .ok (.iload_n 2, 1) := by decide +kernel
theorem dX1_countAll_47 : decode cX1_countAll 47 = .ok (.aload_n 0, 1) := by decide +kernel
theorem dX1_countAll_48 : decode cX1_countAll 48 = .ok (.getfield 19, 3) := by decide +kernel
theorem dX1_countAll_51 : decode cX1_countAll 51 = .ok (.getfield 49, 3) := by decide +kernel
theorem dX1_countAll_54 : decode cX1_countAll 54 = .ok (.iconst 1, 1) := by decide +kernel
theorem dX1_countAll_55 : decode cX1_countAll 55 = .ok (.iaload, 1) := by decide +kernel
theorem dX1_countAll_56 : decode cX1_countAll 56 = .ok (.if_icmp .gt 71, 3) := by decide +kernel
theorem dX1_countAll_59 : decode cX1_countAll 59 = .ok (.iconst 0, 1) := by decide +kernel
theorem dX1_countAll_60 : decode cX1_countAll 60 = .ok (.istore_n 3, 1) := by decide +kernel
theorem dX1_countAll_61 : decode cX1_countAll 61 = .ok (.iload_n 3, 1) := by decide +kernel
theorem dX1_countAll_62 : decode cX1_countAll 62 = .ok (.aload_n 0, 1) := by decide +kernel
theorem dX1_countAll_63 : decode cX1_countAll 63 = .ok (.getfield 19, 3) := by decide +kernel
theorem dX1_countAll_66 : decode cX1_countAll 66 = .ok (.getfield 49, 3) := by decide +kernel
theorem dX1_countAll_69 : decode cX1_countAll 69 = .ok (.iconst 2, 1) := by decide +kernel
theorem dX1_countAll_70 : decode cX1_countAll 70 = .ok (.iaload, 1) := by decide +kernel
theorem dX1_countAll_71 : decode cX1_countAll 71 = .ok (.if_icmp .gt 50, 3) := by decide +kernel
theorem dX1_countAll_74 : decode cX1_countAll 74 = .ok (.iconst 0, 1) := by decide +kernel
theorem dX1_countAll_75 : decode cX1_countAll 75 = .ok (.istore 4, 2) := by decide +kernel
theorem dX1_countAll_77 : decode cX1_countAll 77 = .ok (.iload 4, 2) := by decide +kernel
theorem dX1_countAll_79 : decode cX1_countAll 79 = .ok (.aload_n 0, 1) := by decide +kernel
theorem dX1_countAll_80 : decode cX1_countAll 80 = .ok (.getfield 19, 3) := by decide +kernel
theorem dX1_countAll_83 : decode cX1_countAll 83 = .ok (.getfield 49, 3) := by decide +kernel
theorem dX1_countAll_86 : decode cX1_countAll 86 = .ok (.iconst 3, 1) := by decide +kernel
theorem dX1_countAll_87 : decode cX1_countAll 87 = .ok (.iaload, 1) := by decide +kernel
theorem dX1_countAll_88 : decode cX1_countAll 88 = .ok (.if_icmp .gt 27, 3) := by decide +kernel
theorem dX1_countAll_91 : decode cX1_countAll 91 = .ok (.aload_n 0, 1) := by decide +kernel
theorem dX1_countAll_92 : decode cX1_countAll 92 = .ok (.getfield 9, 3) := by decide +kernel
theorem dX1_countAll_95 : decode cX1_countAll 95 = .ok (.aload_n 0, 1) := by decide +kernel
theorem dX1_countAll_96 : decode cX1_countAll 96 = .ok (.iload_n 1, 1) := by decide +kernel
theorem dX1_countAll_97 : decode cX1_countAll 97 = .ok (.iload_n 2, 1) := by decide +kernel
theorem dX1_countAll_98 : decode cX1_countAll 98 = .ok (.iload_n 3, 1) := by decide +kernel
theorem dX1_countAll_99 : decode cX1_countAll 99 = .ok (.iload 4, 2) := by decide +kernel
theorem dX1_countAll_101 : decode cX1_countAll 101 = .ok (.invokevirtual 52, 3) := by decide +kernel
theorem dX1_countAll_104 : decode cX1_countAll 104 = .ok (.dup2, 1) := by decide +kernel
theorem dX1_countAll_105 : decode cX1_countAll 105 = .ok (.iaload, 1) := by decide +kernel
theorem dX1_countAll_106 : decode cX1_countAll 106 = .ok (.iconst 1, 1) := by decide +kernel
theorem dX1_countAll_107 : decode cX1_countAll 107 = .ok (.iadd, 1) := by decide +kernel
theorem dX1_countAll_108 : decode cX1_countAll 108 = .ok (.iastore, 1) := by decide +kernel
theorem dX1_countAll_109 : decode cX1_countAll 109 = .ok (.iinc 4 1, 3) := by decide +kernel
theorem dX1_countAll_112 : decode cX1_countAll 112 = .ok (.goto (-35), 3) := by decide +kernel
theorem dX1_countAll_115 : decode cX1_countAll 115 = .ok (.iinc 3 1, 3) := by decide +kernel
theorem dX1_countAll_118 : decode cX1_countAll 118 = .ok (.goto (-57), 3) := by decide +kernel
theorem dX1_countAll_121 : decode cX1_countAll 121 = .ok (.iinc 2 1, 3) := by decide +kernel
theorem dX1_countAll_124 : decode cX1_countAll 124 = .ok (.goto (-78), 3) := by decide +kernel
theorem dX1_countAll_127 : decode cX1_countAll 127 = .ok (.iinc 1 1, 3) := by decide +kernel
theorem dX1_countAll_130 : decode cX1_countAll 130 = .ok (.goto (-99), 3) := by decide +kernel
theorem dX1_countAll_133 : decode cX1_countAll 133 = .ok (.aload_n 0, 1) := by decide +kernel
theorem dX1_countAll_134 : decode cX1_countAll 134 = .ok (.invokevirtual 56, 3) := by decide +kernel
theorem dX1_countAll_137 : decode cX1_countAll 137 = .ok (.aload_n 0, 1) := by decide +kernel
theorem dX1_countAll_138 : decode cX1_countAll 138 = .ok (.iconst 1, 1) := by decide +kernel
theorem dX1_countAll_139 : decode cX1_countAll 139 = .ok (.putfield 15, 3) := by decide +kernel
theorem dX1_countAll_142 : decode cX1_countAll 142 = .ok (.return_, 1) := by decide +kernel
theorem dX1_brokenBy_0 : decode cX1_brokenBy 0 = .ok (.iconst 0, 1) := by decide +kernel
theorem dX1_brokenBy_1 : decode cX1_brokenBy 1 = .ok (.istore 5, 2) := by decide +kernel
theorem dX1_brokenBy_3 : decode cX1_brokenBy 3 = .ok (.iconst 0, 1) := by decide +kernel
theorem dX1_brokenBy_4 : decode cX1_brokenBy 4 = .ok (.istore 6, 2) := by decide +kernel
theorem dX1_brokenBy_6 : decode cX1_brokenBy 6 = .ok (.iload 6, 2) := by decide +kernel
theorem dX1_brokenBy_8 : decode cX1_brokenBy 8 = .ok (.aload_n 0, 1) := by decide +kernel
theorem dX1_brokenBy_9 : decode cX1_brokenBy 9 = .ok (.getfield 19, 3) := by decide +kernel
theorem dX1_brokenBy_12 : decode cX1_brokenBy 12 = .ok (.getfield 26, 3) := by decide +kernel
theorem dX1_brokenBy_15 : decode cX1_brokenBy 15 = .ok (.if_icmp .ge 71, 3) := by decide +kernel
theorem dX1_brokenBy_18 : decode cX1_brokenBy 18 = .ok (.aload_n 0, 1) := by decide +kernel
theorem dX1_brokenBy_19 : decode cX1_brokenBy 19 = .ok (.getfield 19, 3) := by decide +kernel
theorem dX1_brokenBy_22 : decode cX1_brokenBy 22 = .ok (.getfield 59, 3) := by decide +kernel
theorem dX1_brokenBy_25 : decode cX1_brokenBy 25 = .ok (.iload 6, 2) := by decide +kernel
theorem dX1_brokenBy_27 : decode cX1_brokenBy 27 = .ok (.aaload, 1) := by decide +kernel
theorem dX1_brokenBy_28 : decode cX1_brokenBy 28 = .ok (.astore 7, 2) := by decide +kernel
theorem dX1_brokenBy_30 : decode cX1_brokenBy 30 = .ok (.aload 7, 2) := by decide +kernel
theorem dX1_brokenBy_32 : decode cX1_brokenBy 32 = .ok (.iconst 0, 1) := by decide +kernel
theorem dX1_brokenBy_33 : decode cX1_brokenBy 33 = .ok (.iaload, 1) := by decide +kernel
theorem dX1_brokenBy_34 : decode cX1_brokenBy 34 = .ok (.iload_n 1, 1) := by decide +kernel
theorem dX1_brokenBy_35 : decode cX1_brokenBy 35 = .ok (.imul, 1) := by decide +kernel
theorem dX1_brokenBy_36 : decode cX1_brokenBy 36 = .ok (.aload 7, 2) := by decide +kernel
theorem dX1_brokenBy_38 : decode cX1_brokenBy 38 = .ok (.iconst 1, 1) := by decide +kernel
theorem dX1_brokenBy_39 : decode cX1_brokenBy 39 = .ok (.iaload, 1) := by decide +kernel
theorem dX1_brokenBy_40 : decode cX1_brokenBy 40 = .ok (.iload_n 2, 1) := by decide +kernel
theorem dX1_brokenBy_41 : decode cX1_brokenBy 41 = .ok (.imul, 1) := by decide +kernel
theorem dX1_brokenBy_42 : decode cX1_brokenBy 42 = .ok (.iadd, 1) := by decide +kernel
theorem dX1_brokenBy_43 : decode cX1_brokenBy 43 = .ok (.aload 7, 2) := by decide +kernel
theorem dX1_brokenBy_45 : decode cX1_brokenBy 45 = .ok (.iconst 2, 1) := by decide +kernel
theorem dX1_brokenBy_46 : decode cX1_brokenBy 46 = .ok (.iaload, 1) := by decide +kernel
theorem dX1_brokenBy_47 : decode cX1_brokenBy 47 = .ok (.iload_n 3, 1) := by decide +kernel
theorem dX1_brokenBy_48 : decode cX1_brokenBy 48 = .ok (.imul, 1) := by decide +kernel
theorem dX1_brokenBy_49 : decode cX1_brokenBy 49 = .ok (.iadd, 1) := by decide +kernel
theorem dX1_brokenBy_50 : decode cX1_brokenBy 50 = .ok (.aload 7, 2) := by decide +kernel
theorem dX1_brokenBy_52 : decode cX1_brokenBy 52 = .ok (.iconst 3, 1) := by decide +kernel
theorem dX1_brokenBy_53 : decode cX1_brokenBy 53 = .ok (.iaload, 1) := by decide +kernel
theorem dX1_brokenBy_54 : decode cX1_brokenBy 54 = .ok (.iload 4, 2) := by decide +kernel
theorem dX1_brokenBy_56 : decode cX1_brokenBy 56 = .ok (.imul, 1) := by decide +kernel
theorem dX1_brokenBy_57 : decode cX1_brokenBy 57 = .ok (.iadd, 1) := by decide +kernel
theorem dX1_brokenBy_58 : decode cX1_brokenBy 58 = .ok (.aload_n 0, 1) := by decide +kernel
theorem dX1_brokenBy_59 : decode cX1_brokenBy 59 = .ok (.getfield 19, 3) := by decide +kernel
theorem dX1_brokenBy_62 : decode cX1_brokenBy 62 = .ok (.getfield 63, 3) := by decide +kernel
theorem dX1_brokenBy_65 : decode cX1_brokenBy 65 = .ok (.iload 6, 2) := by decide +kernel
theorem dX1_brokenBy_67 : decode cX1_brokenBy 67 = .ok (.iaload, 1) := by decide +kernel
theorem dX1_brokenBy_68 : decode cX1_brokenBy 68 = .ok (.if_icmp .le 12, 3) := by decide +kernel
theorem dX1_brokenBy_71 : decode cX1_brokenBy 71 = .ok (.iload 5, 2) := by decide +kernel
theorem dX1_brokenBy_73 : decode cX1_brokenBy 73 = .ok (.iconst 1, 1) := by decide +kernel
theorem dX1_brokenBy_74 : decode cX1_brokenBy 74 = .ok (.iload 6, 2) := by decide +kernel
theorem dX1_brokenBy_76 : decode cX1_brokenBy 76 = .ok (.ishl, 1) := by decide +kernel
theorem dX1_brokenBy_77 : decode cX1_brokenBy 77 = .ok (.ior, 1) := by decide +kernel
theorem dX1_brokenBy_78 : decode cX1_brokenBy 78 = .ok (.istore 5, 2) := by decide +kernel
theorem dX1_brokenBy_80 : decode cX1_brokenBy 80 = .ok (.iinc 6 1, 3) := by decide +kernel
theorem dX1_brokenBy_83 : decode cX1_brokenBy 83 = .ok (.goto (-77), 3) := by decide +kernel
theorem dX1_brokenBy_86 : decode cX1_brokenBy 86 = .ok (.iload 5, 2) := by decide +kernel
theorem dX1_brokenBy_88 : decode cX1_brokenBy 88 = .ok (.ireturn, 1) := by decide +kernel
theorem dX1_addSmallerSets_0 : decode cX1_addSmallerSets 0 = .ok (.iconst 0, 1) := by decide +kernel
theorem dX1_addSmallerSets_1 : decode cX1_addSmallerSets 1 = .ok (.istore_n 1, 1) := by decide +kernel
theorem dX1_addSmallerSets_2 : decode cX1_addSmallerSets 2 = .ok (.iload_n 1, 1) := by decide +kernel
theorem dX1_addSmallerSets_3 : decode cX1_addSmallerSets 3 = .ok (.bipush 6, 2) := by decide +kernel
theorem dX1_addSmallerSets_5 : decode cX1_addSmallerSets 5 = .ok (.if_icmp .ge 51, 3) := by decide +kernel
theorem dX1_addSmallerSets_8 : decode cX1_addSmallerSets 8 = .ok (.iconst 0, 1) := by decide +kernel
theorem dX1_addSmallerSets_9 : decode cX1_addSmallerSets 9 = .ok (.istore_n 2, 1) := by decide +kernel
theorem dX1_addSmallerSets_10 : decode cX1_addSmallerSets 10 = .ok (.iload_n 2, 1) := by decide +kernel
theorem dX1_addSmallerSets_11 : decode cX1_addSmallerSets 11 = .ok (.bipush 64, 2) := by decide +kernel
theorem dX1_addSmallerSets_13 : decode cX1_addSmallerSets 13 = .ok (.if_icmp .ge 37, 3) := by decide +kernel
theorem dX1_addSmallerSets_16 : decode cX1_addSmallerSets 16 = .ok (.iload_n 2, 1) := by decide +kernel
theorem dX1_addSmallerSets_17 : decode cX1_addSmallerSets 17 = .ok (.iload_n 1, 1) := by decide +kernel
theorem dX1_addSmallerSets_18 : decode cX1_addSmallerSets 18 = .ok (.ishr, 1) := by decide +kernel
theorem dX1_addSmallerSets_19 : decode cX1_addSmallerSets 19 = .ok (.iconst 1, 1) := by decide +kernel
theorem dX1_addSmallerSets_20 : decode cX1_addSmallerSets 20 = .ok (.iand, 1) := by decide +kernel
theorem dX1_addSmallerSets_21 : decode cX1_addSmallerSets 21 = .ok (.iconst 1, 1) := by decide +kernel
theorem dX1_addSmallerSets_22 : decode cX1_addSmallerSets 22 = .ok (.if_icmp .ne 22, 3) := by decide +kernel
theorem dX1_addSmallerSets_25 : decode cX1_addSmallerSets 25 = .ok (.aload_n 0, 1) := by decide +kernel
theorem dX1_addSmallerSets_26 : decode cX1_addSmallerSets 26 = .ok (.getfield 9, 3) := by decide +kernel
theorem dX1_addSmallerSets_29 : decode cX1_addSmallerSets 29 = .ok (.iload_n 2, 1) := by decide +kernel
theorem dX1_addSmallerSets_30 : decode cX1_addSmallerSets 30 = .ok (.dup2, 1) := by decide +kernel
theorem dX1_addSmallerSets_31 : decode cX1_addSmallerSets 31 = .ok (.iaload, 1) := by decide +kernel
theorem dX1_addSmallerSets_32 : decode cX1_addSmallerSets 32 = .ok (.aload_n 0, 1) := by decide +kernel
theorem dX1_addSmallerSets_33 : decode cX1_addSmallerSets 33 = .ok (.getfield 9, 3) := by decide +kernel
theorem dX1_addSmallerSets_36 : decode cX1_addSmallerSets 36 = .ok (.iload_n 2, 1) := by decide +kernel
theorem dX1_addSmallerSets_37 : decode cX1_addSmallerSets 37 = .ok (.iconst 1, 1) := by decide +kernel
theorem dX1_addSmallerSets_38 : decode cX1_addSmallerSets 38 = .ok (.iload_n 1, 1) := by decide +kernel
theorem dX1_addSmallerSets_39 : decode cX1_addSmallerSets 39 = .ok (.ishl, 1) := by decide +kernel
theorem dX1_addSmallerSets_40 : decode cX1_addSmallerSets 40 = .ok (.ixor, 1) := by decide +kernel
theorem dX1_addSmallerSets_41 : decode cX1_addSmallerSets 41 = .ok (.iaload, 1) := by decide +kernel
theorem dX1_addSmallerSets_42 : decode cX1_addSmallerSets 42 = .ok (.iadd, 1) := by decide +kernel
theorem dX1_addSmallerSets_43 : decode cX1_addSmallerSets 43 = .ok (.iastore, 1) := by decide +kernel
theorem dX1_addSmallerSets_44 : decode cX1_addSmallerSets 44 = .ok (.iinc 2 1, 3) := by decide +kernel
theorem dX1_addSmallerSets_47 : decode cX1_addSmallerSets 47 = .ok (.goto (-37), 3) := by decide +kernel
theorem dX1_addSmallerSets_50 : decode cX1_addSmallerSets 50 = .ok (.iinc 1 1, 3) := by decide +kernel
theorem dX1_addSmallerSets_53 : decode cX1_addSmallerSets 53 = .ok (.goto (-51), 3) := by decide +kernel
theorem dX1_addSmallerSets_56 : decode cX1_addSmallerSets 56 = .ok (.return_, 1) := by decide +kernel
theorem dX1_toldOf_0 : decode cX1_toldOf 0 = .ok (.iconst 1, 1) := by decide +kernel
theorem dX1_toldOf_1 : decode cX1_toldOf 1 = .ok (.iload_n 0, 1) := by decide +kernel
theorem dX1_toldOf_2 : decode cX1_toldOf 2 = .ok (.iload_n 1, 1) := by decide +kernel
theorem dX1_toldOf_3 : decode cX1_toldOf 3 = .ok (.invokestatic 66, 3) := by decide +kernel
theorem dX1_toldOf_6 : decode cX1_toldOf 6 = .ok (.invokestatic 69, 3) := by decide +kernel
theorem dX1_toldOf_9 : decode cX1_toldOf 9 = .ok (.istore_n 3, 1) := by decide +kernel
theorem dX1_toldOf_10 : decode cX1_toldOf 10 = .ok (.iload_n 2, 1) := by decide +kernel
theorem dX1_toldOf_11 : decode cX1_toldOf 11 = .ok (.ifCond .eq 9, 3) := by decide +kernel
theorem dX1_toldOf_14 : decode cX1_toldOf 14 = .ok (.iload_n 0, 1) := by decide +kernel
theorem dX1_toldOf_15 : decode cX1_toldOf 15 = .ok (.iload_n 3, 1) := by decide +kernel
theorem dX1_toldOf_16 : decode cX1_toldOf 16 = .ok (.idiv, 1) := by decide +kernel
theorem dX1_toldOf_17 : decode cX1_toldOf 17 = .ok (.goto 6, 3) := by decide +kernel
theorem dX1_toldOf_20 : decode cX1_toldOf 20 = .ok (.iload_n 1, 1) := by decide +kernel
theorem dX1_toldOf_21 : decode cX1_toldOf 21 = .ok (.iload_n 3, 1) := by decide +kernel
theorem dX1_toldOf_22 : decode cX1_toldOf 22 = .ok (.idiv, 1) := by decide +kernel
theorem dX1_toldOf_23 : decode cX1_toldOf 23 = .ok (.ireturn, 1) := by decide +kernel
theorem dX1_greatestDivisor_0 : decode cX1_greatestDivisor 0 = .ok (.iload_n 0, 1) := by decide +kernel
theorem dX1_greatestDivisor_1 : decode cX1_greatestDivisor 1 = .ok (.istore_n 2, 1) := by decide +kernel
theorem dX1_greatestDivisor_2 : decode cX1_greatestDivisor 2 = .ok (.iload_n 1, 1) := by decide +kernel
theorem dX1_greatestDivisor_3 : decode cX1_greatestDivisor 3 = .ok (.istore_n 3, 1) := by decide +kernel
theorem dX1_greatestDivisor_4 : decode cX1_greatestDivisor 4 = .ok (.iconst 0, 1) := by decide +kernel
theorem dX1_greatestDivisor_5 : decode cX1_greatestDivisor 5 = .ok (.istore 4, 2) := by decide +kernel
theorem dX1_greatestDivisor_7 : decode cX1_greatestDivisor 7 = .ok (.iload 4, 2) := by decide +kernel
theorem dX1_greatestDivisor_9 : decode cX1_greatestDivisor 9 = .ok (.bipush 100, 2) := by decide +kernel
theorem dX1_greatestDivisor_11 : decode cX1_greatestDivisor 11 = .ok (.if_icmp .ge 23, 3) := by decide +kernel
theorem dX1_greatestDivisor_14 : decode cX1_greatestDivisor 14 = .ok (.iload_n 3, 1) := by decide +kernel
theorem dX1_greatestDivisor_15 : decode cX1_greatestDivisor 15 = .ok (.ifCond .eq 19, 3) := by decide +kernel
theorem dX1_greatestDivisor_18 : decode cX1_greatestDivisor 18 = .ok (.iload_n 2, 1) := by decide +kernel
theorem dX1_greatestDivisor_19 : decode cX1_greatestDivisor 19 = .ok (.iload_n 3, 1) := by decide +kernel
theorem dX1_greatestDivisor_20 : decode cX1_greatestDivisor 20 = .ok (.irem, 1) := by decide +kernel
theorem dX1_greatestDivisor_21 : decode cX1_greatestDivisor 21 = .ok (.istore 5, 2) := by decide +kernel
theorem dX1_greatestDivisor_23 : decode cX1_greatestDivisor 23 = .ok (.iload_n 3, 1) := by decide +kernel
theorem dX1_greatestDivisor_24 : decode cX1_greatestDivisor 24 = .ok (.istore_n 2, 1) := by decide +kernel
theorem dX1_greatestDivisor_25 : decode cX1_greatestDivisor 25 = .ok (.iload 5, 2) := by decide +kernel
theorem dX1_greatestDivisor_27 : decode cX1_greatestDivisor 27 = .ok (.istore_n 3, 1) := by decide +kernel
theorem dX1_greatestDivisor_28 : decode cX1_greatestDivisor 28 = .ok (.iinc 4 1, 3) := by decide +kernel
theorem dX1_greatestDivisor_31 : decode cX1_greatestDivisor 31 = .ok (.goto (-24), 3) := by decide +kernel
theorem dX1_greatestDivisor_34 : decode cX1_greatestDivisor 34 = .ok (.iload_n 2, 1) := by decide +kernel
theorem dX1_greatestDivisor_35 : decode cX1_greatestDivisor 35 = .ok (.ireturn, 1) := by decide +kernel
theorem dX2_init_0 : decode cX2_init 0 = .ok (.aload_n 0, 1) := by decide +kernel
theorem dX2_init_1 : decode cX2_init 1 = .ok (.invokespecial 3, 3) := by decide +kernel
theorem dX2_init_4 : decode cX2_init 4 = .ok (.aload_n 0, 1) := by decide +kernel
theorem dX2_init_5 : decode cX2_init 5 = .ok (.sipush 320, 3) := by decide +kernel
theorem dX2_init_8 : decode cX2_init 8 = .ok (.newarray .int, 2) := by decide +kernel
theorem dX2_init_10 : decode cX2_init 10 = .ok (.putfield 9, 3) := by decide +kernel
theorem dX2_init_13 : decode cX2_init 13 = .ok (.aload_n 0, 1) := by decide +kernel
theorem dX2_init_14 : decode cX2_init 14 = .ok (.bipush 40, 2) := by decide +kernel
theorem dX2_init_16 : decode cX2_init 16 = .ok (.newarray .int, 2) := by decide +kernel
theorem dX2_init_18 : decode cX2_init 18 = .ok (.putfield 15, 3) := by decide +kernel
theorem dX2_init_21 : decode cX2_init 21 = .ok (.aload_n 0, 1) := by decide +kernel
theorem dX2_init_22 : decode cX2_init 22 = .ok (.iconst 0, 1) := by decide +kernel
theorem dX2_init_23 : decode cX2_init 23 = .ok (.putfield 18, 3) := by decide +kernel
theorem dX2_init_26 : decode cX2_init 26 = .ok (.return_, 1) := by decide +kernel
theorem dX2_has_0 : decode cX2_has 0 = .ok (.iload_n 1, 1) := by decide +kernel
theorem dX2_has_1 : decode cX2_has 1 = .ok (.ifCond .lt 15, 3) := by decide +kernel
theorem dX2_has_4 : decode cX2_has 4 = .ok (.iload_n 1, 1) := by decide +kernel
theorem dX2_has_5 : decode cX2_has 5 = .ok (.aload_n 0, 1) := by decide +kernel
theorem dX2_has_6 : decode cX2_has 6 = .ok (.getfield 18, 3) := by decide +kernel
theorem dX2_has_9 : decode cX2_has 9 = .ok (.if_icmp .ge 7, 3) := by decide +kernel
theorem dX2_has_12 : decode cX2_has 12 = .ok (.iconst 1, 1) := by decide +kernel
theorem dX2_has_13 : decode cX2_has 13 = .ok (.goto 4, 3) := by decide +kernel
theorem dX2_has_16 : decode cX2_has 16 = .ok (.iconst 0, 1) := by decide +kernel
theorem dX2_has_17 : decode cX2_has 17 = .ok (.ireturn, 1) := by decide +kernel
theorem dX2_at_0 : decode cX2_at 0 = .ok (.aload_n 0, 1) := by decide +kernel
theorem dX2_at_1 : decode cX2_at 1 = .ok (.getfield 9, 3) := by decide +kernel
theorem dX2_at_4 : decode cX2_at 4 = .ok (.iload_n 1, 1) := by decide +kernel
theorem dX2_at_5 : decode cX2_at 5 = .ok (.bipush 8, 2) := by decide +kernel
theorem dX2_at_7 : decode cX2_at 7 = .ok (.imul, 1) := by decide +kernel
theorem dX2_at_8 : decode cX2_at 8 = .ok (.iload_n 2, 1) := by decide +kernel
theorem dX2_at_9 : decode cX2_at 9 = .ok (.iadd, 1) := by decide +kernel
theorem dX2_at_10 : decode cX2_at 10 = .ok (.iaload, 1) := by decide +kernel
theorem dX2_at_11 : decode cX2_at 11 = .ok (.ireturn, 1) := by decide +kernel
theorem dX2_addEmpty_0 : decode cX2_addEmpty 0 = .ok (.aload_n 0, 1) := by decide +kernel
theorem dX2_addEmpty_1 : decode cX2_addEmpty 1 = .ok (.getfield 18, 3) := by decide +kernel
theorem dX2_addEmpty_4 : decode cX2_addEmpty 4 = .ok (.bipush 40, 2) := by decide +kernel
theorem dX2_addEmpty_6 : decode cX2_addEmpty 6 = .ok (.if_icmp .ge 23, 3) := by decide +kernel
theorem dX2_addEmpty_9 : decode cX2_addEmpty 9 = .ok (.aload_n 0, 1) := by decide +kernel
theorem dX2_addEmpty_10 : decode cX2_addEmpty 10 = .ok (.getfield 15, 3) := by decide +kernel
theorem dX2_addEmpty_13 : decode cX2_addEmpty 13 = .ok (.aload_n 0, 1) := by decide +kernel
theorem dX2_addEmpty_14 : decode cX2_addEmpty 14 = .ok (.getfield 18, 3) := by decide +kernel
theorem dX2_addEmpty_17 : decode cX2_addEmpty 17 = .ok (.iconst 0, 1) := by decide +kernel
theorem dX2_addEmpty_18 : decode cX2_addEmpty 18 = .ok (.iastore, 1) := by decide +kernel
theorem dX2_addEmpty_19 : decode cX2_addEmpty 19 = .ok (.aload_n 0, 1) := by decide +kernel
theorem dX2_addEmpty_20 : decode cX2_addEmpty 20 = .ok (.dup, 1) := by decide +kernel
theorem dX2_addEmpty_21 : decode cX2_addEmpty 21 = .ok (.getfield 18, 3) := by decide +kernel
theorem dX2_addEmpty_24 : decode cX2_addEmpty 24 = .ok (.iconst 1, 1) := by decide +kernel
theorem dX2_addEmpty_25 : decode cX2_addEmpty 25 = .ok (.iadd, 1) := by decide +kernel
theorem dX2_addEmpty_26 : decode cX2_addEmpty 26 = .ok (.putfield 18, 3) := by decide +kernel
theorem dX2_addEmpty_29 : decode cX2_addEmpty 29 = .ok (.return_, 1) := by decide +kernel
theorem dX2_putInLast_0 : decode cX2_putInLast 0 = .ok (.aload_n 0, 1) := by decide +kernel
theorem dX2_putInLast_1 : decode cX2_putInLast 1 = .ok (.getfield 18, 3) := by decide +kernel
theorem dX2_putInLast_4 : decode cX2_putInLast 4 = .ok (.iconst 1, 1) := by decide +kernel
theorem dX2_putInLast_5 : decode cX2_putInLast 5 = .ok (.isub, 1) := by decide +kernel
theorem dX2_putInLast_6 : decode cX2_putInLast 6 = .ok (.istore_n 2, 1) := by decide +kernel
theorem dX2_putInLast_7 : decode cX2_putInLast 7 = .ok (.iload_n 2, 1) := by decide +kernel
theorem dX2_putInLast_8 : decode cX2_putInLast 8 = .ok (.ifCond .lt 41, 3) := by decide +kernel
theorem dX2_putInLast_11 : decode cX2_putInLast 11 = .ok (.aload_n 0, 1) := by decide +kernel
theorem dX2_putInLast_12 : decode cX2_putInLast 12 = .ok (.getfield 15, 3) := by decide +kernel
theorem dX2_putInLast_15 : decode cX2_putInLast 15 = .ok (.iload_n 2, 1) := by decide +kernel
theorem dX2_putInLast_16 : decode cX2_putInLast 16 = .ok (.iaload, 1) := by decide +kernel
theorem dX2_putInLast_17 : decode cX2_putInLast 17 = .ok (.bipush 8, 2) := by decide +kernel
theorem dX2_putInLast_19 : decode cX2_putInLast 19 = .ok (.if_icmp .ge 30, 3) := by decide +kernel
theorem dX2_putInLast_22 : decode cX2_putInLast 22 = .ok (.aload_n 0, 1) := by decide +kernel
theorem dX2_putInLast_23 : decode cX2_putInLast 23 = .ok (.getfield 9, 3) := by decide +kernel
theorem dX2_putInLast_26 : decode cX2_putInLast 26 = .ok (.iload_n 2, 1) := by decide +kernel
theorem dX2_putInLast_27 : decode cX2_putInLast 27 = .ok (.bipush 8, 2) := by decide +kernel
theorem dX2_putInLast_29 : decode cX2_putInLast 29 = .ok (.imul, 1) := by decide +kernel
theorem dX2_putInLast_30 : decode cX2_putInLast 30 = .ok (.aload_n 0, 1) := by decide +kernel
theorem dX2_putInLast_31 : decode cX2_putInLast 31 = .ok (.getfield 15, 3) := by decide +kernel
theorem dX2_putInLast_34 : decode cX2_putInLast 34 = .ok (.iload_n 2, 1) := by decide +kernel
theorem dX2_putInLast_35 : decode cX2_putInLast 35 = .ok (.iaload, 1) := by decide +kernel
theorem dX2_putInLast_36 : decode cX2_putInLast 36 = .ok (.iadd, 1) := by decide +kernel
theorem dX2_putInLast_37 : decode cX2_putInLast 37 = .ok (.iload_n 1, 1) := by decide +kernel
theorem dX2_putInLast_38 : decode cX2_putInLast 38 = .ok (.iastore, 1) := by decide +kernel
theorem dX2_putInLast_39 : decode cX2_putInLast 39 = .ok (.aload_n 0, 1) := by decide +kernel
theorem dX2_putInLast_40 : decode cX2_putInLast 40 = .ok (.getfield 15, 3) := by decide +kernel
theorem dX2_putInLast_43 : decode cX2_putInLast 43 = .ok (.iload_n 2, 1) := by decide +kernel
theorem dX2_putInLast_44 : decode cX2_putInLast 44 = .ok (.dup2, 1) := by decide +kernel
theorem dX2_putInLast_45 : decode cX2_putInLast 45 = .ok (.iaload, 1) := by decide +kernel
theorem dX2_putInLast_46 : decode cX2_putInLast 46 = .ok (.iconst 1, 1) := by decide +kernel
theorem dX2_putInLast_47 : decode cX2_putInLast 47 = .ok (.iadd, 1) := by decide +kernel
theorem dX2_putInLast_48 : decode cX2_putInLast 48 = .ok (.iastore, 1) := by decide +kernel
theorem dX2_putInLast_49 : decode cX2_putInLast 49 = .ok (.return_, 1) := by decide +kernel
theorem dX2_forget_0 : decode cX2_forget 0 = .ok (.aload_n 0, 1) := by decide +kernel
theorem dX2_forget_1 : decode cX2_forget 1 = .ok (.getfield 18, 3) := by decide +kernel
theorem dX2_forget_4 : decode cX2_forget 4 = .ok (.iload_n 1, 1) := by decide +kernel
theorem dX2_forget_5 : decode cX2_forget 5 = .ok (.isub, 1) := by decide +kernel
theorem dX2_forget_6 : decode cX2_forget 6 = .ok (.iconst 1, 1) := by decide +kernel
theorem dX2_forget_7 : decode cX2_forget 7 = .ok (.isub, 1) := by decide +kernel
theorem dX2_forget_8 : decode cX2_forget 8 = .ok (.istore_n 2, 1) := by decide +kernel
theorem dX2_forget_9 : decode cX2_forget 9 = .ok (.iload_n 1, 1) := by decide +kernel
theorem dX2_forget_10 : decode cX2_forget 10 = .ok (.bipush 8, 2) := by decide +kernel
theorem dX2_forget_12 : decode cX2_forget 12 = .ok (.imul, 1) := by decide +kernel
theorem dX2_forget_13 : decode cX2_forget 13 = .ok (.istore_n 3, 1) := by decide +kernel
theorem dX2_forget_14 : decode cX2_forget 14 = .ok (.aload_n 0, 1) := by decide +kernel
theorem dX2_forget_15 : decode cX2_forget 15 = .ok (.getfield 15, 3) := by decide +kernel
theorem dX2_forget_18 : decode cX2_forget 18 = .ok (.iload_n 1, 1) := by decide +kernel
theorem dX2_forget_19 : decode cX2_forget 19 = .ok (.iconst 1, 1) := by decide +kernel
theorem dX2_forget_20 : decode cX2_forget 20 = .ok (.iadd, 1) := by decide +kernel
theorem dX2_forget_21 : decode cX2_forget 21 = .ok (.aload_n 0, 1) := by decide +kernel
theorem dX2_forget_22 : decode cX2_forget 22 = .ok (.getfield 15, 3) := by decide +kernel
theorem dX2_forget_25 : decode cX2_forget 25 = .ok (.iload_n 1, 1) := by decide +kernel
theorem dX2_forget_26 : decode cX2_forget 26 = .ok (.iload_n 2, 1) := by decide +kernel
theorem dX2_forget_27 : decode cX2_forget 27 = .ok (.invokestatic 22, 3) := by decide +kernel
theorem dX2_forget_30 : decode cX2_forget 30 = .ok (.aload_n 0, 1) := by decide +kernel
theorem dX2_forget_31 : decode cX2_forget 31 = .ok (.getfield 9, 3) := by decide +kernel
theorem dX2_forget_34 : decode cX2_forget 34 = .ok (.iload_n 3, 1) := by decide +kernel
theorem dX2_forget_35 : decode cX2_forget 35 = .ok (.bipush 8, 2) := by decide +kernel
theorem dX2_forget_37 : decode cX2_forget 37 = .ok (.iadd, 1) := by decide +kernel
theorem dX2_forget_38 : decode cX2_forget 38 = .ok (.aload_n 0, 1) := by decide +kernel
theorem dX2_forget_39 : decode cX2_forget 39 = .ok (.getfield 9, 3) := by decide +kernel
theorem dX2_forget_42 : decode cX2_forget 42 = .ok (.iload_n 3, 1) := by decide +kernel
theorem dX2_forget_43 : decode cX2_forget 43 = .ok (.iload_n 2, 1) := by decide +kernel
theorem dX2_forget_44 : decode cX2_forget 44 = .ok (.bipush 8, 2) := by decide +kernel
theorem dX2_forget_46 : decode cX2_forget 46 = .ok (.imul, 1) := by decide +kernel
theorem dX2_forget_47 : decode cX2_forget 47 = .ok (.invokestatic 22, 3) := by decide +kernel
theorem dX2_forget_50 : decode cX2_forget 50 = .ok (.aload_n 0, 1) := by decide +kernel
theorem dX2_forget_51 : decode cX2_forget 51 = .ok (.dup, 1) := by decide +kernel
theorem dX2_forget_52 : decode cX2_forget 52 = .ok (.getfield 18, 3) := by decide +kernel
theorem dX2_forget_55 : decode cX2_forget 55 = .ok (.iconst 1, 1) := by decide +kernel
theorem dX2_forget_56 : decode cX2_forget 56 = .ok (.isub, 1) := by decide +kernel
theorem dX2_forget_57 : decode cX2_forget 57 = .ok (.putfield 18, 3) := by decide +kernel
theorem dX2_forget_60 : decode cX2_forget 60 = .ok (.return_, 1) := by decide +kernel
theorem dX2_copy_0 : decode cX2_copy 0 = .ok (.aload_n 0, 1) := by decide +kernel
theorem dX2_copy_1 : decode cX2_copy 1 = .ok (.aload_n 1, 1) := by decide +kernel
theorem dX2_copy_2 : decode cX2_copy 2 = .ok (.getfield 18, 3) := by decide +kernel
theorem dX2_copy_5 : decode cX2_copy 5 = .ok (.putfield 18, 3) := by decide +kernel
theorem dX2_copy_8 : decode cX2_copy 8 = .ok (.aload_n 1, 1) := by decide +kernel
theorem dX2_copy_9 : decode cX2_copy 9 = .ok (.getfield 15, 3) := by decide +kernel
theorem dX2_copy_12 : decode cX2_copy 12 = .ok (.iconst 0, 1) := by decide +kernel
theorem dX2_copy_13 : decode cX2_copy 13 = .ok (.aload_n 0, 1) := by decide +kernel
theorem dX2_copy_14 : decode cX2_copy 14 = .ok (.getfield 15, 3) := by decide +kernel
theorem dX2_copy_17 : decode cX2_copy 17 = .ok (.iconst 0, 1) := by decide +kernel
theorem dX2_copy_18 : decode cX2_copy 18 = .ok (.aload_n 0, 1) := by decide +kernel
theorem dX2_copy_19 : decode cX2_copy 19 = .ok (.getfield 18, 3) := by decide +kernel
theorem dX2_copy_22 : decode cX2_copy 22 = .ok (.invokestatic 22, 3) := by decide +kernel
theorem dX2_copy_25 : decode cX2_copy 25 = .ok (.aload_n 1, 1) := by decide +kernel
theorem dX2_copy_26 : decode cX2_copy 26 = .ok (.getfield 9, 3) := by decide +kernel
theorem dX2_copy_29 : decode cX2_copy 29 = .ok (.iconst 0, 1) := by decide +kernel
theorem dX2_copy_30 : decode cX2_copy 30 = .ok (.aload_n 0, 1) := by decide +kernel
theorem dX2_copy_31 : decode cX2_copy 31 = .ok (.getfield 9, 3) := by decide +kernel
theorem dX2_copy_34 : decode cX2_copy 34 = .ok (.iconst 0, 1) := by decide +kernel
theorem dX2_copy_35 : decode cX2_copy 35 = .ok (.aload_n 0, 1) := by decide +kernel
theorem dX2_copy_36 : decode cX2_copy 36 = .ok (.getfield 18, 3) := by decide +kernel
theorem dX2_copy_39 : decode cX2_copy 39 = .ok (.bipush 8, 2) := by decide +kernel
theorem dX2_copy_41 : decode cX2_copy 41 = .ok (.imul, 1) := by decide +kernel
theorem dX2_copy_42 : decode cX2_copy 42 = .ok (.invokestatic 22, 3) := by decide +kernel
theorem dX2_copy_45 : decode cX2_copy 45 = .ok (.return_, 1) := by decide +kernel
theorem dX3_init_0 : decode cX3_init 0 = .ok (.aload_n 0, 1) := by decide +kernel
theorem dX3_init_1 : decode cX3_init 1 = .ok (.invokespecial 3, 3) := by decide +kernel
theorem dX3_init_4 : decode cX3_init 4 = .ok (.aload_n 0, 1) := by decide +kernel
theorem dX3_init_5 : decode cX3_init 5 = .ok (.bipush 6, 2) := by decide +kernel
theorem dX3_init_7 : decode cX3_init 7 = .ok (.newarray .int, 2) := by decide +kernel
theorem dX3_init_9 : decode cX3_init 9 = .ok (.putfield 9, 3) := by decide +kernel
theorem dX3_init_12 : decode cX3_init 12 = .ok (.aload_n 0, 1) := by decide +kernel
theorem dX3_init_13 : decode cX3_init 13 = .ok (.bipush 6, 2) := by decide +kernel
theorem dX3_init_15 : decode cX3_init 15 = .ok (.newarray .boolean, 2) := by decide +kernel
theorem dX3_init_17 : decode cX3_init 17 = .ok (.putfield 15, 3) := by decide +kernel
theorem dX3_init_20 : decode cX3_init 20 = .ok (.aload_n 0, 1) := by decide +kernel
theorem dX3_init_21 : decode cX3_init 21 = .ok (.iconst 0, 1) := by decide +kernel
theorem dX3_init_22 : decode cX3_init 22 = .ok (.putfield 19, 3) := by decide +kernel
theorem dX3_init_25 : decode cX3_init 25 = .ok (.return_, 1) := by decide +kernel
theorem dX3_put_0 : decode cX3_put 0 = .ok (.aload_n 0, 1) := by decide +kernel
theorem dX3_put_1 : decode cX3_put 1 = .ok (.getfield 19, 3) := by decide +kernel
theorem dX3_put_4 : decode cX3_put 4 = .ok (.bipush 6, 2) := by decide +kernel
theorem dX3_put_6 : decode cX3_put 6 = .ok (.if_icmp .ge 33, 3) := by decide +kernel
theorem dX3_put_9 : decode cX3_put 9 = .ok (.aload_n 0, 1) := by decide +kernel
theorem dX3_put_10 : decode cX3_put 10 = .ok (.getfield 9, 3) := by decide +kernel
theorem dX3_put_13 : decode cX3_put 13 = .ok (.aload_n 0, 1) := by decide +kernel
theorem dX3_put_14 : decode cX3_put 14 = .ok (.getfield 19, 3) := by decide +kernel
theorem dX3_put_17 : decode cX3_put 17 = .ok (.iload_n 1, 1) := by decide +kernel
theorem dX3_put_18 : decode cX3_put 18 = .ok (.iastore, 1) := by decide +kernel
theorem dX3_put_19 : decode cX3_put 19 = .ok (.aload_n 0, 1) := by decide +kernel
theorem dX3_put_20 : decode cX3_put 20 = .ok (.getfield 15, 3) := by decide +kernel
theorem dX3_put_23 : decode cX3_put 23 = .ok (.aload_n 0, 1) := by decide +kernel
theorem dX3_put_24 : decode cX3_put 24 = .ok (.getfield 19, 3) := by decide +kernel
theorem dX3_put_27 : decode cX3_put 27 = .ok (.iload_n 2, 1) := by decide +kernel
theorem dX3_put_28 : decode cX3_put 28 = .ok (.bastore, 1) := by decide +kernel
theorem dX3_put_29 : decode cX3_put 29 = .ok (.aload_n 0, 1) := by decide +kernel
theorem dX3_put_30 : decode cX3_put 30 = .ok (.dup, 1) := by decide +kernel
theorem dX3_put_31 : decode cX3_put 31 = .ok (.getfield 19, 3) := by decide +kernel
theorem dX3_put_34 : decode cX3_put 34 = .ok (.iconst 1, 1) := by decide +kernel
theorem dX3_put_35 : decode cX3_put 35 = .ok (.iadd, 1) := by decide +kernel
theorem dX3_put_36 : decode cX3_put 36 = .ok (.putfield 19, 3) := by decide +kernel
theorem dX3_put_39 : decode cX3_put 39 = .ok (.return_, 1) := by decide +kernel
theorem dX4_init_0 : decode cX4_init 0 = .ok (.aload_n 0, 1) := by decide +kernel
theorem dX4_init_1 : decode cX4_init 1 = .ok (.invokespecial 3, 3) := by decide +kernel
theorem dX4_init_4 : decode cX4_init 4 = .ok (.aload_n 0, 1) := by decide +kernel
theorem dX4_init_5 : decode cX4_init 5 = .ok (.iconst 2, 1) := by decide +kernel
theorem dX4_init_6 : decode cX4_init 6 = .ok (.anewarray 9, 3) := by decide +kernel
theorem dX4_init_9 : decode cX4_init 9 = .ok (.putfield 11, 3) := by decide +kernel
theorem dX4_init_12 : decode cX4_init 12 = .ok (.aload_n 0, 1) := by decide +kernel
theorem dX4_init_13 : decode cX4_init 13 = .ok (.iconst 2, 1) := by decide +kernel
theorem dX4_init_14 : decode cX4_init 14 = .ok (.newarray .boolean, 2) := by decide +kernel
theorem dX4_init_16 : decode cX4_init 16 = .ok (.putfield 17, 3) := by decide +kernel
theorem dX4_init_19 : decode cX4_init 19 = .ok (.iconst 0, 1) := by decide +kernel
theorem dX4_init_20 : decode cX4_init 20 = .ok (.istore_n 2, 1) := by decide +kernel
theorem dX4_init_21 : decode cX4_init 21 = .ok (.iload_n 2, 1) := by decide +kernel
theorem dX4_init_22 : decode cX4_init 22 = .ok (.iconst 2, 1) := by decide +kernel
theorem dX4_init_23 : decode cX4_init 23 = .ok (.if_icmp .ge 23, 3) := by decide +kernel
theorem dX4_init_26 : decode cX4_init 26 = .ok (.aload_n 0, 1) := by decide +kernel
theorem dX4_init_27 : decode cX4_init 27 = .ok (.getfield 11, 3) := by decide +kernel
theorem dX4_init_30 : decode cX4_init 30 = .ok (.iload_n 2, 1) := by decide +kernel
theorem dX4_init_31 : decode cX4_init 31 = .ok (.new 9, 3) := by decide +kernel
theorem dX4_init_34 : decode cX4_init 34 = .ok (.dup, 1) := by decide +kernel
theorem dX4_init_35 : decode cX4_init 35 = .ok (.aload_n 1, 1) := by decide +kernel
theorem dX4_init_36 : decode cX4_init 36 = .ok (.invokespecial 21, 3) := by decide +kernel
theorem dX4_init_39 : decode cX4_init 39 = .ok (.aastore, 1) := by decide +kernel
theorem dX4_init_40 : decode cX4_init 40 = .ok (.iinc 2 1, 3) := by decide +kernel
theorem dX4_init_43 : decode cX4_init 43 = .ok (.goto (-22), 3) := by decide +kernel
theorem dX4_init_46 : decode cX4_init 46 = .ok (.return_, 1) := by decide +kernel
theorem dX4_has_0 : decode cX4_has 0 = .ok (.iload_n 1, 1) := by decide +kernel
theorem dX4_has_1 : decode cX4_has 1 = .ok (.ifCond .lt 12, 3) := by decide +kernel
theorem dX4_has_4 : decode cX4_has 4 = .ok (.iload_n 1, 1) := by decide +kernel
theorem dX4_has_5 : decode cX4_has 5 = .ok (.iconst 2, 1) := by decide +kernel
theorem dX4_has_6 : decode cX4_has 6 = .ok (.if_icmp .ge 7, 3) := by decide +kernel
theorem dX4_has_9 : decode cX4_has 9 = .ok (.iconst 1, 1) := by decide +kernel
theorem dX4_has_10 : decode cX4_has 10 = .ok (.goto 4, 3) := by decide +kernel
theorem dX4_has_13 : decode cX4_has 13 = .ok (.iconst 0, 1) := by decide +kernel
theorem dX4_has_14 : decode cX4_has 14 = .ok (.ireturn, 1) := by decide +kernel
theorem dX4_put_0 : decode cX4_put 0 = .ok (.aload_n 0, 1) := by decide +kernel
theorem dX4_put_1 : decode cX4_put 1 = .ok (.getfield 11, 3) := by decide +kernel
theorem dX4_put_4 : decode cX4_put 4 = .ok (.iload_n 1, 1) := by decide +kernel
theorem dX4_put_5 : decode cX4_put 5 = .ok (.aaload, 1) := by decide +kernel
theorem dX4_put_6 : decode cX4_put 6 = .ok (.aload_n 2, 1) := by decide +kernel
theorem dX4_put_7 : decode cX4_put 7 = .ok (.invokevirtual 24, 3) := by decide +kernel
theorem dX4_put_10 : decode cX4_put 10 = .ok (.aload_n 0, 1) := by decide +kernel
theorem dX4_put_11 : decode cX4_put 11 = .ok (.getfield 17, 3) := by decide +kernel
theorem dX4_put_14 : decode cX4_put 14 = .ok (.iload_n 1, 1) := by decide +kernel
theorem dX4_put_15 : decode cX4_put 15 = .ok (.iconst 1, 1) := by decide +kernel
theorem dX4_put_16 : decode cX4_put 16 = .ok (.bastore, 1) := by decide +kernel
theorem dX4_put_17 : decode cX4_put 17 = .ok (.return_, 1) := by decide +kernel
theorem dX4_empty_0 : decode cX4_empty 0 = .ok (.iconst 0, 1) := by decide +kernel
theorem dX4_empty_1 : decode cX4_empty 1 = .ok (.istore_n 1, 1) := by decide +kernel
theorem dX4_empty_2 : decode cX4_empty 2 = .ok (.iload_n 1, 1) := by decide +kernel
theorem dX4_empty_3 : decode cX4_empty 3 = .ok (.iconst 2, 1) := by decide +kernel
theorem dX4_empty_4 : decode cX4_empty 4 = .ok (.if_icmp .ge 16, 3) := by decide +kernel
theorem dX4_empty_7 : decode cX4_empty 7 = .ok (.aload_n 0, 1) := by decide +kernel
theorem dX4_empty_8 : decode cX4_empty 8 = .ok (.getfield 17, 3) := by decide +kernel
theorem dX4_empty_11 : decode cX4_empty 11 = .ok (.iload_n 1, 1) := by decide +kernel
theorem dX4_empty_12 : decode cX4_empty 12 = .ok (.iconst 0, 1) := by decide +kernel
theorem dX4_empty_13 : decode cX4_empty 13 = .ok (.bastore, 1) := by decide +kernel
theorem dX4_empty_14 : decode cX4_empty 14 = .ok (.iinc 1 1, 3) := by decide +kernel
theorem dX4_empty_17 : decode cX4_empty 17 = .ok (.goto (-15), 3) := by decide +kernel
theorem dX4_empty_20 : decode cX4_empty 20 = .ok (.return_, 1) := by decide +kernel
theorem dX5_init_0 : decode cX5_init 0 = .ok (.aload_n 0, 1) := by decide +kernel
theorem dX5_init_1 : decode cX5_init 1 = .ok (.invokespecial 3, 3) := by decide +kernel
theorem dX5_init_4 : decode cX5_init 4 = .ok (.aload_n 0, 1) := by decide +kernel
theorem dX5_init_5 : decode cX5_init 5 = .ok (.new 9, 3) := by decide +kernel
theorem dX5_init_8 : decode cX5_init 8 = .ok (.dup, 1) := by decide +kernel
theorem dX5_init_9 : decode cX5_init 9 = .ok (.invokespecial 11, 3) := by decide +kernel
theorem dX5_init_12 : decode cX5_init 12 = .ok (.putfield 12, 3) := by decide +kernel
theorem dX5_init_15 : decode cX5_init 15 = .ok (.aload_n 0, 1) := by decide +kernel
theorem dX5_init_16 : decode cX5_init 16 = .ok (.iconst 0, 1) := by decide +kernel
theorem dX5_init_17 : decode cX5_init 17 = .ok (.putfield 18, 3) := by decide +kernel
theorem dX5_init_20 : decode cX5_init 20 = .ok (.aload_n 0, 1) := by decide +kernel
theorem dX5_init_21 : decode cX5_init 21 = .ok (.aload_n 1, 1) := by decide +kernel
theorem dX5_init_22 : decode cX5_init 22 = .ok (.putfield 22, 3) := by decide +kernel
theorem dX5_init_25 : decode cX5_init 25 = .ok (.aload_n 0, 1) := by decide +kernel
theorem dX5_init_26 : decode cX5_init 26 = .ok (.new 26, 3) := by decide +kernel
theorem dX5_init_29 : decode cX5_init 29 = .ok (.dup, 1) := by decide +kernel
theorem dX5_init_30 : decode cX5_init 30 = .ok (.aload_n 1, 1) := by decide +kernel
theorem dX5_init_31 : decode cX5_init 31 = .ok (.invokespecial 28, 3) := by decide +kernel
theorem dX5_init_34 : decode cX5_init 34 = .ok (.putfield 31, 3) := by decide +kernel
theorem dX5_init_37 : decode cX5_init 37 = .ok (.return_, 1) := by decide +kernel
theorem dX5_begin_0 : decode cX5_begin 0 = .ok (.aload_n 0, 1) := by decide +kernel
theorem dX5_begin_1 : decode cX5_begin 1 = .ok (.iconst 0, 1) := by decide +kernel
theorem dX5_begin_2 : decode cX5_begin 2 = .ok (.putfield 18, 3) := by decide +kernel
theorem dX5_begin_5 : decode cX5_begin 5 = .ok (.aload_n 0, 1) := by decide +kernel
theorem dX5_begin_6 : decode cX5_begin 6 = .ok (.getfield 12, 3) := by decide +kernel
theorem dX5_begin_9 : decode cX5_begin 9 = .ok (.iconst 0, 1) := by decide +kernel
theorem dX5_begin_10 : decode cX5_begin 10 = .ok (.putfield 35, 3) := by decide +kernel
theorem dX5_begin_13 : decode cX5_begin 13 = .ok (.aload_n 0, 1) := by decide +kernel
theorem dX5_begin_14 : decode cX5_begin 14 = .ok (.getfield 31, 3) := by decide +kernel
theorem dX5_begin_17 : decode cX5_begin 17 = .ok (.iconst 0, 1) := by decide +kernel
theorem dX5_begin_18 : decode cX5_begin 18 = .ok (.invokevirtual 39, 3) := by decide +kernel
theorem dX5_begin_21 : decode cX5_begin 21 = .ok (.aload_n 0, 1) := by decide +kernel
theorem dX5_begin_22 : decode cX5_begin 22 = .ok (.invokevirtual 43, 3) := by decide +kernel
theorem dX5_begin_25 : decode cX5_begin 25 = .ok (.return_, 1) := by decide +kernel
theorem dX5_copy_0 : decode cX5_copy 0 = .ok (.aload_n 0, 1) := by decide +kernel
theorem dX5_copy_1 : decode cX5_copy 1 = .ok (.aload_n 1, 1) := by decide +kernel
theorem dX5_copy_2 : decode cX5_copy 2 = .ok (.getfield 18, 3) := by decide +kernel
theorem dX5_copy_5 : decode cX5_copy 5 = .ok (.putfield 18, 3) := by decide +kernel
theorem dX5_copy_8 : decode cX5_copy 8 = .ok (.aload_n 0, 1) := by decide +kernel
theorem dX5_copy_9 : decode cX5_copy 9 = .ok (.getfield 31, 3) := by decide +kernel
theorem dX5_copy_12 : decode cX5_copy 12 = .ok (.aload_n 1, 1) := by decide +kernel
theorem dX5_copy_13 : decode cX5_copy 13 = .ok (.getfield 31, 3) := by decide +kernel
theorem dX5_copy_16 : decode cX5_copy 16 = .ok (.invokevirtual 46, 3) := by decide +kernel
theorem dX5_copy_19 : decode cX5_copy 19 = .ok (.aload_n 0, 1) := by decide +kernel
theorem dX5_copy_20 : decode cX5_copy 20 = .ok (.getfield 12, 3) := by decide +kernel
theorem dX5_copy_23 : decode cX5_copy 23 = .ok (.aload_n 1, 1) := by decide +kernel
theorem dX5_copy_24 : decode cX5_copy 24 = .ok (.getfield 12, 3) := by decide +kernel
theorem dX5_copy_27 : decode cX5_copy 27 = .ok (.invokevirtual 50, 3) := by decide +kernel
theorem dX5_copy_30 : decode cX5_copy 30 = .ok (.return_, 1) := by decide +kernel
theorem dX5_least_0 : decode cX5_least 0 = .ok (.aload_n 0, 1) := by decide +kernel
theorem dX5_least_1 : decode cX5_least 1 = .ok (.getfield 22, 3) := by decide +kernel
theorem dX5_least_4 : decode cX5_least 4 = .ok (.getfield 53, 3) := by decide +kernel
theorem dX5_least_7 : decode cX5_least 7 = .ok (.iload_n 1, 1) := by decide +kernel
theorem dX5_least_8 : decode cX5_least 8 = .ok (.aaload, 1) := by decide +kernel
theorem dX5_least_9 : decode cX5_least 9 = .ok (.astore_n 2, 1) := by decide +kernel
theorem dX5_least_10 : decode cX5_least 10 = .ok (.iconst 0, 1) := by decide +kernel
theorem dX5_least_11 : decode cX5_least 11 = .ok (.istore_n 3, 1) := by decide +kernel
theorem dX5_least_12 : decode cX5_least 12 = .ok (.iconst 0, 1) := by decide +kernel
theorem dX5_least_13 : decode cX5_least 13 = .ok (.istore 4, 2) := by decide +kernel
theorem dX5_least_15 : decode cX5_least 15 = .ok (.iload 4, 2) := by decide +kernel
theorem dX5_least_17 : decode cX5_least 17 = .ok (.aload_n 0, 1) := by decide +kernel
theorem dX5_least_18 : decode cX5_least 18 = .ok (.getfield 22, 3) := by decide +kernel
theorem dX5_least_21 : decode cX5_least 21 = .ok (.getfield 59, 3) := by decide +kernel
theorem dX5_least_24 : decode cX5_least 24 = .ok (.if_icmp .ge 47, 3) := by decide +kernel
theorem dX5_least_27 : decode cX5_least 27 = .ok (.iload_n 3, 1) := by decide +kernel
theorem dX5_least_28 : decode cX5_least 28 = .ok (.aload_n 2, 1) := by decide +kernel
theorem dX5_least_29 : decode cX5_least 29 = .ok (.iload 4, 2) := by decide +kernel
theorem dX5_least_31 : decode cX5_least 31 = .ok (.iaload, 1) := by decide +kernel
theorem dX5_least_32 : decode cX5_least 32 = .ok (.aload_n 2, 1) := by decide +kernel
theorem dX5_least_33 : decode cX5_least 33 = .ok (.iload 4, 2) := by decide +kernel
theorem dX5_least_35 : decode cX5_least 35 = .ok (.iaload, 1) := by decide +kernel
theorem dX5_least_36 : decode cX5_least 36 = .ok (.ifCond .le 16, 3) := by decide +kernel
theorem dX5_least_39 : decode cX5_least 39 = .ok (.aload_n 0, 1) := by decide +kernel
theorem dX5_least_40 : decode cX5_least 40 = .ok (.getfield 31, 3) := by decide +kernel
theorem dX5_least_43 : decode cX5_least 43 = .ok (.getfield 62, 3) := by decide +kernel
theorem dX5_least_46 : decode cX5_least 46 = .ok (.iload 4, 2) := by decide +kernel
theorem dX5_least_48 : decode cX5_least 48 = .ok (.iaload, 1) := by decide +kernel
theorem dX5_least_49 : decode cX5_least 49 = .ok (.goto 13, 3) := by decide +kernel
theorem dX5_least_52 : decode cX5_least 52 = .ok (.aload_n 0, 1) := by decide +kernel
theorem dX5_least_53 : decode cX5_least 53 = .ok (.getfield 31, 3) := by decide +kernel
theorem dX5_least_56 : decode cX5_least 56 = .ok (.getfield 66, 3) := by decide +kernel
theorem dX5_least_59 : decode cX5_least 59 = .ok (.iload 4, 2) := by decide +kernel
theorem dX5_least_61 : decode cX5_least 61 = .ok (.iaload, 1) := by decide +kernel
theorem dX5_least_62 : decode cX5_least 62 = .ok (.imul, 1) := by decide +kernel
theorem dX5_least_63 : decode cX5_least 63 = .ok (.iadd, 1) := by decide +kernel
theorem dX5_least_64 : decode cX5_least 64 = .ok (.istore_n 3, 1) := by decide +kernel
theorem dX5_least_65 : decode cX5_least 65 = .ok (.iinc 4 1, 3) := by decide +kernel
theorem dX5_least_68 : decode cX5_least 68 = .ok (.goto (-53), 3) := by decide +kernel
theorem dX5_least_71 : decode cX5_least 71 = .ok (.iload_n 3, 1) := by decide +kernel
theorem dX5_least_72 : decode cX5_least 72 = .ok (.ireturn, 1) := by decide +kernel
theorem dX5_theBreak_0 : decode cX5_theBreak 0 = .ok (.iconst 0, 1) := by decide +kernel
theorem dX5_theBreak_1 : decode cX5_theBreak 1 = .ok (.istore_n 1, 1) := by decide +kernel
theorem dX5_theBreak_2 : decode cX5_theBreak 2 = .ok (.iload_n 1, 1) := by decide +kernel
theorem dX5_theBreak_3 : decode cX5_theBreak 3 = .ok (.aload_n 0, 1) := by decide +kernel
theorem dX5_theBreak_4 : decode cX5_theBreak 4 = .ok (.getfield 22, 3) := by decide +kernel
theorem dX5_theBreak_7 : decode cX5_theBreak 7 = .ok (.getfield 69, 3) := by decide +kernel
theorem dX5_theBreak_10 : decode cX5_theBreak 10 = .ok (.if_icmp .ge 28, 3) := by decide +kernel
theorem dX5_theBreak_13 : decode cX5_theBreak 13 = .ok (.aload_n 0, 1) := by decide +kernel
theorem dX5_theBreak_14 : decode cX5_theBreak 14 = .ok (.iload_n 1, 1) := by decide +kernel
theorem dX5_theBreak_15 : decode cX5_theBreak 15 = .ok (.invokevirtual 72, 3) := by decide +kernel
theorem dX5_theBreak_18 : decode cX5_theBreak 18 = .ok (.aload_n 0, 1) := by decide +kernel
theorem dX5_theBreak_19 : decode cX5_theBreak 19 = .ok (.getfield 22, 3) := by decide +kernel
theorem dX5_theBreak_22 : decode cX5_theBreak 22 = .ok (.getfield 76, 3) := by decide +kernel
theorem dX5_theBreak_25 : decode cX5_theBreak 25 = .ok (.iload_n 1, 1) := by decide +kernel
theorem dX5_theBreak_26 : decode cX5_theBreak 26 = .ok (.iaload, 1) := by decide +kernel
theorem dX5_theBreak_27 : decode cX5_theBreak 27 = .ok (.if_icmp .le 5, 3) := by decide +kernel
theorem dX5_theBreak_30 : decode cX5_theBreak 30 = .ok (.iload_n 1, 1) := by decide +kernel
theorem dX5_theBreak_31 : decode cX5_theBreak 31 = .ok (.ireturn, 1) := by decide +kernel
theorem dX5_theBreak_32 : decode cX5_theBreak 32 = .ok (.iinc 1 1, 3) := by decide +kernel
theorem dX5_theBreak_35 : decode cX5_theBreak 35 = .ok (.goto (-33), 3) := by decide +kernel
theorem dX5_theBreak_38 : decode cX5_theBreak 38 = .ok (.iconst 0, 1) := by decide +kernel
theorem dX5_theBreak_39 : decode cX5_theBreak 39 = .ok (.istore_n 1, 1) := by decide +kernel
theorem dX5_theBreak_40 : decode cX5_theBreak 40 = .ok (.iload_n 1, 1) := by decide +kernel
theorem dX5_theBreak_41 : decode cX5_theBreak 41 = .ok (.aload_n 0, 1) := by decide +kernel
theorem dX5_theBreak_42 : decode cX5_theBreak 42 = .ok (.getfield 12, 3) := by decide +kernel
theorem dX5_theBreak_45 : decode cX5_theBreak 45 = .ok (.getfield 35, 3) := by decide +kernel
theorem dX5_theBreak_48 : decode cX5_theBreak 48 = .ok (.if_icmp .ge 22, 3) := by decide +kernel
theorem dX5_theBreak_51 : decode cX5_theBreak 51 = .ok (.aload_n 0, 1) := by decide +kernel
theorem dX5_theBreak_52 : decode cX5_theBreak 52 = .ok (.iload_n 1, 1) := by decide +kernel
theorem dX5_theBreak_53 : decode cX5_theBreak 53 = .ok (.invokevirtual 79, 3) := by decide +kernel
theorem dX5_theBreak_56 : decode cX5_theBreak 56 = .ok (.ifCond .eq 8, 3) := by decide +kernel
theorem dX5_theBreak_59 : decode cX5_theBreak 59 = .ok (.bipush 10, 2) := by decide +kernel
theorem dX5_theBreak_61 : decode cX5_theBreak 61 = .ok (.iload_n 1, 1) := by decide +kernel
theorem dX5_theBreak_62 : decode cX5_theBreak 62 = .ok (.iadd, 1) := by decide +kernel
theorem dX5_theBreak_63 : decode cX5_theBreak 63 = .ok (.ireturn, 1) := by decide +kernel
theorem dX5_theBreak_64 : decode cX5_theBreak 64 = .ok (.iinc 1 1, 3) := by decide +kernel
theorem dX5_theBreak_67 : decode cX5_theBreak 67 = .ok (.goto (-27), 3) := by decide +kernel
theorem dX5_theBreak_70 : decode cX5_theBreak 70 = .ok (.bipush (-9), 2) := by decide +kernel
theorem dX5_theBreak_72 : decode cX5_theBreak 72 = .ok (.ireturn, 1) := by decide +kernel
theorem dX5_cutBreaks_0 : decode cX5_cutBreaks 0 = .ok (.iconst 0, 1) := by decide +kernel
theorem dX5_cutBreaks_1 : decode cX5_cutBreaks 1 = .ok (.istore_n 2, 1) := by decide +kernel
theorem dX5_cutBreaks_2 : decode cX5_cutBreaks 2 = .ok (.iload_n 2, 1) := by decide +kernel
theorem dX5_cutBreaks_3 : decode cX5_cutBreaks 3 = .ok (.aload_n 0, 1) := by decide +kernel
theorem dX5_cutBreaks_4 : decode cX5_cutBreaks 4 = .ok (.getfield 12, 3) := by decide +kernel
theorem dX5_cutBreaks_7 : decode cX5_cutBreaks 7 = .ok (.getfield 83, 3) := by decide +kernel
theorem dX5_cutBreaks_10 : decode cX5_cutBreaks 10 = .ok (.iload_n 1, 1) := by decide +kernel
theorem dX5_cutBreaks_11 : decode cX5_cutBreaks 11 = .ok (.iaload, 1) := by decide +kernel
theorem dX5_cutBreaks_12 : decode cX5_cutBreaks 12 = .ok (.if_icmp .ge 30, 3) := by decide +kernel
theorem dX5_cutBreaks_15 : decode cX5_cutBreaks 15 = .ok (.aload_n 0, 1) := by decide +kernel
theorem dX5_cutBreaks_16 : decode cX5_cutBreaks 16 = .ok (.getfield 31, 3) := by decide +kernel
theorem dX5_cutBreaks_19 : decode cX5_cutBreaks 19 = .ok (.aload_n 0, 1) := by decide +kernel
theorem dX5_cutBreaks_20 : decode cX5_cutBreaks 20 = .ok (.getfield 12, 3) := by decide +kernel
theorem dX5_cutBreaks_23 : decode cX5_cutBreaks 23 = .ok (.iload_n 1, 1) := by decide +kernel
theorem dX5_cutBreaks_24 : decode cX5_cutBreaks 24 = .ok (.iload_n 2, 1) := by decide +kernel
theorem dX5_cutBreaks_25 : decode cX5_cutBreaks 25 = .ok (.invokevirtual 86, 3) := by decide +kernel
theorem dX5_cutBreaks_28 : decode cX5_cutBreaks 28 = .ok (.invokevirtual 90, 3) := by decide +kernel
theorem dX5_cutBreaks_31 : decode cX5_cutBreaks 31 = .ok (.ifCond .ne 5, 3) := by decide +kernel
theorem dX5_cutBreaks_34 : decode cX5_cutBreaks 34 = .ok (.iconst 0, 1) := by decide +kernel
theorem dX5_cutBreaks_35 : decode cX5_cutBreaks 35 = .ok (.ireturn, 1) := by decide +kernel
theorem dX5_cutBreaks_36 : decode cX5_cutBreaks 36 = .ok (.iinc 2 1, 3) := by decide +kernel
theorem dX5_cutBreaks_39 : decode cX5_cutBreaks 39 = .ok (.goto (-37), 3) := by decide +kernel
theorem dX5_cutBreaks_42 : decode cX5_cutBreaks 42 = .ok (.iconst 1, 1) := by decide +kernel
theorem dX5_cutBreaks_43 : decode cX5_cutBreaks 43 = .ok (.ireturn, 1) := by decide +kernel
theorem dX5_drawIn_0 : decode cX5_drawIn 0 = .ok (.iconst 0, 1) := by decide +kernel
theorem dX5_drawIn_1 : decode cX5_drawIn 1 = .ok (.istore_n 1, 1) := by decide +kernel
theorem dX5_drawIn_2 : decode cX5_drawIn 2 = .ok (.iload_n 1, 1) := by decide +kernel
theorem dX5_drawIn_3 : decode cX5_drawIn 3 = .ok (.bipush 36, 2) := by decide +kernel
theorem dX5_drawIn_5 : decode cX5_drawIn 5 = .ok (.if_icmp .ge 26, 3) := by decide +kernel
theorem dX5_drawIn_8 : decode cX5_drawIn 8 = .ok (.aload_n 0, 1) := by decide +kernel
theorem dX5_drawIn_9 : decode cX5_drawIn 9 = .ok (.invokevirtual 93, 3) := by decide +kernel
theorem dX5_drawIn_12 : decode cX5_drawIn 12 = .ok (.bipush (-9), 2) := by decide +kernel
theorem dX5_drawIn_14 : decode cX5_drawIn 14 = .ok (.if_icmp .ne 10, 3) := by decide +kernel
theorem dX5_drawIn_17 : decode cX5_drawIn 17 = .ok (.aload_n 0, 1) := by decide +kernel
theorem dX5_drawIn_18 : decode cX5_drawIn 18 = .ok (.invokevirtual 97, 3) := by decide +kernel
theorem dX5_drawIn_21 : decode cX5_drawIn 21 = .ok (.ifCond .ne 4, 3) := by decide +kernel
theorem dX5_drawIn_24 : decode cX5_drawIn 24 = .ok (.return_, 1) := by decide +kernel
theorem dX5_drawIn_25 : decode cX5_drawIn 25 = .ok (.iinc 1 1, 3) := by decide +kernel
theorem dX5_drawIn_28 : decode cX5_drawIn 28 = .ok (.goto (-26), 3) := by decide +kernel
theorem dX5_drawIn_31 : decode cX5_drawIn 31 = .ok (.return_, 1) := by decide +kernel
theorem dX5_drawOne_0 : decode cX5_drawOne 0 = .ok (.iconst 0, 1) := by decide +kernel
theorem dX5_drawOne_1 : decode cX5_drawOne 1 = .ok (.istore_n 1, 1) := by decide +kernel
theorem dX5_drawOne_2 : decode cX5_drawOne 2 = .ok (.iload_n 1, 1) := by decide +kernel
theorem dX5_drawOne_3 : decode cX5_drawOne 3 = .ok (.aload_n 0, 1) := by decide +kernel
theorem dX5_drawOne_4 : decode cX5_drawOne 4 = .ok (.getfield 22, 3) := by decide +kernel
theorem dX5_drawOne_7 : decode cX5_drawOne 7 = .ok (.getfield 69, 3) := by decide +kernel
theorem dX5_drawOne_10 : decode cX5_drawOne 10 = .ok (.if_icmp .ge 39, 3) := by decide +kernel
theorem dX5_drawOne_13 : decode cX5_drawOne 13 = .ok (.aload_n 0, 1) := by decide +kernel
theorem dX5_drawOne_14 : decode cX5_drawOne 14 = .ok (.iload_n 1, 1) := by decide +kernel
theorem dX5_drawOne_15 : decode cX5_drawOne 15 = .ok (.invokevirtual 101, 3) := by decide +kernel
theorem dX5_drawOne_18 : decode cX5_drawOne 18 = .ok (.istore_n 2, 1) := by decide +kernel
theorem dX5_drawOne_19 : decode cX5_drawOne 19 = .ok (.iload_n 2, 1) := by decide +kernel
theorem dX5_drawOne_20 : decode cX5_drawOne 20 = .ok (.bipush (-9), 2) := by decide +kernel
theorem dX5_drawOne_22 : decode cX5_drawOne 22 = .ok (.if_icmp .eq 21, 3) := by decide +kernel
theorem dX5_drawOne_25 : decode cX5_drawOne 25 = .ok (.aload_n 0, 1) := by decide +kernel
theorem dX5_drawOne_26 : decode cX5_drawOne 26 = .ok (.getfield 31, 3) := by decide +kernel
theorem dX5_drawOne_29 : decode cX5_drawOne 29 = .ok (.iload_n 2, 1) := by decide +kernel
theorem dX5_drawOne_30 : decode cX5_drawOne 30 = .ok (.aload_n 0, 1) := by decide +kernel
theorem dX5_drawOne_31 : decode cX5_drawOne 31 = .ok (.getfield 31, 3) := by decide +kernel
theorem dX5_drawOne_34 : decode cX5_drawOne 34 = .ok (.invokevirtual 104, 3) := by decide +kernel
theorem dX5_drawOne_37 : decode cX5_drawOne 37 = .ok (.iload_n 1, 1) := by decide +kernel
theorem dX5_drawOne_38 : decode cX5_drawOne 38 = .ok (.invokevirtual 107, 3) := by decide +kernel
theorem dX5_drawOne_41 : decode cX5_drawOne 41 = .ok (.iconst 1, 1) := by decide +kernel
theorem dX5_drawOne_42 : decode cX5_drawOne 42 = .ok (.ireturn, 1) := by decide +kernel
theorem dX5_drawOne_43 : decode cX5_drawOne 43 = .ok (.iinc 1 1, 3) := by decide +kernel
theorem dX5_drawOne_46 : decode cX5_drawOne 46 = .ok (.goto (-44), 3) := by decide +kernel
theorem dX5_drawOne_49 : decode cX5_drawOne 49 = .ok (.iconst 0, 1) := by decide +kernel
theorem dX5_drawOne_50 : decode cX5_drawOne 50 = .ok (.istore_n 1, 1) := by decide +kernel
theorem dX5_drawOne_51 : decode cX5_drawOne 51 = .ok (.iload_n 1, 1) := by decide +kernel
theorem dX5_drawOne_52 : decode cX5_drawOne 52 = .ok (.aload_n 0, 1) := by decide +kernel
theorem dX5_drawOne_53 : decode cX5_drawOne 53 = .ok (.getfield 12, 3) := by decide +kernel
theorem dX5_drawOne_56 : decode cX5_drawOne 56 = .ok (.getfield 35, 3) := by decide +kernel
theorem dX5_drawOne_59 : decode cX5_drawOne 59 = .ok (.if_icmp .ge 42, 3) := by decide +kernel
theorem dX5_drawOne_62 : decode cX5_drawOne 62 = .ok (.aload_n 0, 1) := by decide +kernel
theorem dX5_drawOne_63 : decode cX5_drawOne 63 = .ok (.iload_n 1, 1) := by decide +kernel
theorem dX5_drawOne_64 : decode cX5_drawOne 64 = .ok (.invokevirtual 111, 3) := by decide +kernel
theorem dX5_drawOne_67 : decode cX5_drawOne 67 = .ok (.istore_n 2, 1) := by decide +kernel
theorem dX5_drawOne_68 : decode cX5_drawOne 68 = .ok (.iload_n 2, 1) := by decide +kernel
theorem dX5_drawOne_69 : decode cX5_drawOne 69 = .ok (.bipush (-9), 2) := by decide +kernel
theorem dX5_drawOne_71 : decode cX5_drawOne 71 = .ok (.if_icmp .eq 24, 3) := by decide +kernel
theorem dX5_drawOne_74 : decode cX5_drawOne 74 = .ok (.aload_n 0, 1) := by decide +kernel
theorem dX5_drawOne_75 : decode cX5_drawOne 75 = .ok (.getfield 31, 3) := by decide +kernel
theorem dX5_drawOne_78 : decode cX5_drawOne 78 = .ok (.iload_n 2, 1) := by decide +kernel
theorem dX5_drawOne_79 : decode cX5_drawOne 79 = .ok (.aload_n 0, 1) := by decide +kernel
theorem dX5_drawOne_80 : decode cX5_drawOne 80 = .ok (.getfield 31, 3) := by decide +kernel
theorem dX5_drawOne_83 : decode cX5_drawOne 83 = .ok (.invokevirtual 104, 3) := by decide +kernel
theorem dX5_drawOne_86 : decode cX5_drawOne 86 = .ok (.bipush 10, 2) := by decide +kernel
theorem dX5_drawOne_88 : decode cX5_drawOne 88 = .ok (.iload_n 1, 1) := by decide +kernel
theorem dX5_drawOne_89 : decode cX5_drawOne 89 = .ok (.iadd, 1) := by decide +kernel
theorem dX5_drawOne_90 : decode cX5_drawOne 90 = .ok (.invokevirtual 107, 3) := by decide +kernel
theorem dX5_drawOne_93 : decode cX5_drawOne 93 = .ok (.iconst 1, 1) := by decide +kernel
theorem dX5_drawOne_94 : decode cX5_drawOne 94 = .ok (.ireturn, 1) := by decide +kernel
theorem dX5_drawOne_95 : decode cX5_drawOne 95 = .ok (.iinc 1 1, 3) := by decide +kernel
theorem dX5_drawOne_98 : decode cX5_drawOne 98 = .ok (.goto (-47), 3) := by decide +kernel
theorem dX5_drawOne_101 : decode cX5_drawOne 101 = .ok (.iconst 0, 1) := by decide +kernel
theorem dX5_drawOne_102 : decode cX5_drawOne 102 = .ok (.ireturn, 1) := by decide +kernel
theorem dX5_toldByRule_0 : decode cX5_toldByRule 0 = .ok (.aload_n 0, 1) := by decide +kernel
theorem dX5_toldByRule_1 : decode cX5_toldByRule 1 = .ok (.getfield 22, 3) := by decide +kernel
theorem dX5_toldByRule_4 : decode cX5_toldByRule 4 = .ok (.getfield 76, 3) := by decide +kernel
theorem dX5_toldByRule_7 : decode cX5_toldByRule 7 = .ok (.iload_n 1, 1) := by decide +kernel
theorem dX5_toldByRule_8 : decode cX5_toldByRule 8 = .ok (.iaload, 1) := by decide +kernel
theorem dX5_toldByRule_9 : decode cX5_toldByRule 9 = .ok (.aload_n 0, 1) := by decide +kernel
theorem dX5_toldByRule_10 : decode cX5_toldByRule 10 = .ok (.iload_n 1, 1) := by decide +kernel
theorem dX5_toldByRule_11 : decode cX5_toldByRule 11 = .ok (.invokevirtual 72, 3) := by decide +kernel
theorem dX5_toldByRule_14 : decode cX5_toldByRule 14 = .ok (.isub, 1) := by decide +kernel
theorem dX5_toldByRule_15 : decode cX5_toldByRule 15 = .ok (.istore_n 2, 1) := by decide +kernel
theorem dX5_toldByRule_16 : decode cX5_toldByRule 16 = .ok (.iload_n 2, 1) := by decide +kernel
theorem dX5_toldByRule_17 : decode cX5_toldByRule 17 = .ok (.ifCond .ge 6, 3) := by decide +kernel
theorem dX5_toldByRule_20 : decode cX5_toldByRule 20 = .ok (.bipush (-9), 2) := by decide +kernel
theorem dX5_toldByRule_22 : decode cX5_toldByRule 22 = .ok (.ireturn, 1) := by decide +kernel
theorem dX5_toldByRule_23 : decode cX5_toldByRule 23 = .ok (.iconst 0, 1) := by decide +kernel
theorem dX5_toldByRule_24 : decode cX5_toldByRule 24 = .ok (.istore_n 3, 1) := by decide +kernel
theorem dX5_toldByRule_25 : decode cX5_toldByRule 25 = .ok (.iload_n 3, 1) := by decide +kernel
theorem dX5_toldByRule_26 : decode cX5_toldByRule 26 = .ok (.aload_n 0, 1) := by decide +kernel
theorem dX5_toldByRule_27 : decode cX5_toldByRule 27 = .ok (.getfield 22, 3) := by decide +kernel
theorem dX5_toldByRule_30 : decode cX5_toldByRule 30 = .ok (.getfield 59, 3) := by decide +kernel
theorem dX5_toldByRule_33 : decode cX5_toldByRule 33 = .ok (.if_icmp .ge 112, 3) := by decide +kernel
theorem dX5_toldByRule_36 : decode cX5_toldByRule 36 = .ok (.aload_n 0, 1) := by decide +kernel
theorem dX5_toldByRule_37 : decode cX5_toldByRule 37 = .ok (.getfield 22, 3) := by decide +kernel
theorem dX5_toldByRule_40 : decode cX5_toldByRule 40 = .ok (.getfield 53, 3) := by decide +kernel
theorem dX5_toldByRule_43 : decode cX5_toldByRule 43 = .ok (.iload_n 1, 1) := by decide +kernel
theorem dX5_toldByRule_44 : decode cX5_toldByRule 44 = .ok (.aaload, 1) := by decide +kernel
theorem dX5_toldByRule_45 : decode cX5_toldByRule 45 = .ok (.iload_n 3, 1) := by decide +kernel
theorem dX5_toldByRule_46 : decode cX5_toldByRule 46 = .ok (.iaload, 1) := by decide +kernel
theorem dX5_toldByRule_47 : decode cX5_toldByRule 47 = .ok (.istore 4, 2) := by decide +kernel
theorem dX5_toldByRule_49 : decode cX5_toldByRule 49 = .ok (.iload 4, 2) := by decide +kernel
theorem dX5_toldByRule_51 : decode cX5_toldByRule 51 = .ok (.ifCond .le 44, 3) := by decide +kernel
theorem dX5_toldByRule_54 : decode cX5_toldByRule 54 = .ok (.aload_n 0, 1) := by decide +kernel
theorem dX5_toldByRule_55 : decode cX5_toldByRule 55 = .ok (.getfield 31, 3) := by decide +kernel
theorem dX5_toldByRule_58 : decode cX5_toldByRule 58 = .ok (.getfield 62, 3) := by decide +kernel
theorem dX5_toldByRule_61 : decode cX5_toldByRule 61 = .ok (.iload_n 3, 1) := by decide +kernel
theorem dX5_toldByRule_62 : decode cX5_toldByRule 62 = .ok (.iaload, 1) := by decide +kernel
theorem dX5_toldByRule_63 : decode cX5_toldByRule 63 = .ok (.iload_n 2, 1) := by decide +kernel
theorem dX5_toldByRule_64 : decode cX5_toldByRule 64 = .ok (.iload 4, 2) := by decide +kernel
theorem dX5_toldByRule_66 : decode cX5_toldByRule 66 = .ok (.idiv, 1) := by decide +kernel
theorem dX5_toldByRule_67 : decode cX5_toldByRule 67 = .ok (.iadd, 1) := by decide +kernel
theorem dX5_toldByRule_68 : decode cX5_toldByRule 68 = .ok (.istore 5, 2) := by decide +kernel
theorem dX5_toldByRule_70 : decode cX5_toldByRule 70 = .ok (.iload 5, 2) := by decide +kernel
theorem dX5_toldByRule_72 : decode cX5_toldByRule 72 = .ok (.aload_n 0, 1) := by decide +kernel
theorem dX5_toldByRule_73 : decode cX5_toldByRule 73 = .ok (.getfield 31, 3) := by decide +kernel
theorem dX5_toldByRule_76 : decode cX5_toldByRule 76 = .ok (.getfield 66, 3) := by decide +kernel
theorem dX5_toldByRule_79 : decode cX5_toldByRule 79 = .ok (.iload_n 3, 1) := by decide +kernel
theorem dX5_toldByRule_80 : decode cX5_toldByRule 80 = .ok (.iaload, 1) := by decide +kernel
theorem dX5_toldByRule_81 : decode cX5_toldByRule 81 = .ok (.if_icmp .ge 11, 3) := by decide +kernel
theorem dX5_toldByRule_84 : decode cX5_toldByRule 84 = .ok (.iload_n 3, 1) := by decide +kernel
theorem dX5_toldByRule_85 : decode cX5_toldByRule 85 = .ok (.iconst 1, 1) := by decide +kernel
theorem dX5_toldByRule_86 : decode cX5_toldByRule 86 = .ok (.iload 5, 2) := by decide +kernel
theorem dX5_toldByRule_88 : decode cX5_toldByRule 88 = .ok (.invokestatic 114, 3) := by decide +kernel
theorem dX5_toldByRule_91 : decode cX5_toldByRule 91 = .ok (.ireturn, 1) := by decide +kernel
theorem dX5_toldByRule_92 : decode cX5_toldByRule 92 = .ok (.goto 47, 3) := by decide +kernel
theorem dX5_toldByRule_95 : decode cX5_toldByRule 95 = .ok (.iload 4, 2) := by decide +kernel
theorem dX5_toldByRule_97 : decode cX5_toldByRule 97 = .ok (.ifCond .ge 42, 3) := by decide +kernel
theorem dX5_toldByRule_100 : decode cX5_toldByRule 100 = .ok (.aload_n 0, 1) := by decide +kernel
theorem dX5_toldByRule_101 : decode cX5_toldByRule 101 = .ok (.getfield 31, 3) := by decide +kernel
theorem dX5_toldByRule_104 : decode cX5_toldByRule 104 = .ok (.getfield 66, 3) := by decide +kernel
theorem dX5_toldByRule_107 : decode cX5_toldByRule 107 = .ok (.iload_n 3, 1) := by decide +kernel
theorem dX5_toldByRule_108 : decode cX5_toldByRule 108 = .ok (.iaload, 1) := by decide +kernel
theorem dX5_toldByRule_109 : decode cX5_toldByRule 109 = .ok (.iload_n 2, 1) := by decide +kernel
theorem dX5_toldByRule_110 : decode cX5_toldByRule 110 = .ok (.iload 4, 2) := by decide +kernel
theorem dX5_toldByRule_112 : decode cX5_toldByRule 112 = .ok (.ineg, 1) := by decide +kernel
theorem dX5_toldByRule_113 : decode cX5_toldByRule 113 = .ok (.idiv, 1) := by decide +kernel
theorem dX5_toldByRule_114 : decode cX5_toldByRule 114 = .ok (.isub, 1) := by decide +kernel
theorem dX5_toldByRule_115 : decode cX5_toldByRule 115 = .ok (.istore 5, 2) := by decide +kernel
theorem dX5_toldByRule_117 : decode cX5_toldByRule 117 = .ok (.iload 5, 2) := by decide +kernel
theorem dX5_toldByRule_119 : decode cX5_toldByRule 119 = .ok (.aload_n 0, 1) := by decide +kernel
theorem dX5_toldByRule_120 : decode cX5_toldByRule 120 = .ok (.getfield 31, 3) := by decide +kernel
theorem dX5_toldByRule_123 : decode cX5_toldByRule 123 = .ok (.getfield 62, 3) := by decide +kernel
theorem dX5_toldByRule_126 : decode cX5_toldByRule 126 = .ok (.iload_n 3, 1) := by decide +kernel
theorem dX5_toldByRule_127 : decode cX5_toldByRule 127 = .ok (.iaload, 1) := by decide +kernel
theorem dX5_toldByRule_128 : decode cX5_toldByRule 128 = .ok (.if_icmp .le 11, 3) := by decide +kernel
theorem dX5_toldByRule_131 : decode cX5_toldByRule 131 = .ok (.iload_n 3, 1) := by decide +kernel
theorem dX5_toldByRule_132 : decode cX5_toldByRule 132 = .ok (.iconst 0, 1) := by decide +kernel
theorem dX5_toldByRule_133 : decode cX5_toldByRule 133 = .ok (.iload 5, 2) := by decide +kernel
theorem dX5_toldByRule_135 : decode cX5_toldByRule 135 = .ok (.invokestatic 114, 3) := by decide +kernel
theorem dX5_toldByRule_138 : decode cX5_toldByRule 138 = .ok (.ireturn, 1) := by decide +kernel
theorem dX5_toldByRule_139 : decode cX5_toldByRule 139 = .ok (.iinc 3 1, 3) := by decide +kernel
theorem dX5_toldByRule_142 : decode cX5_toldByRule 142 = .ok (.goto (-117), 3) := by decide +kernel
theorem dX5_toldByRule_145 : decode cX5_toldByRule 145 = .ok (.bipush (-9), 2) := by decide +kernel
theorem dX5_toldByRule_147 : decode cX5_toldByRule 147 = .ok (.ireturn, 1) := by decide +kernel
theorem dX5_toldByCut_0 : decode cX5_toldByCut 0 = .ok (.bipush (-9), 2) := by decide +kernel
theorem dX5_toldByCut_2 : decode cX5_toldByCut 2 = .ok (.istore_n 2, 1) := by decide +kernel
theorem dX5_toldByCut_3 : decode cX5_toldByCut 3 = .ok (.iconst 0, 1) := by decide +kernel
theorem dX5_toldByCut_4 : decode cX5_toldByCut 4 = .ok (.istore_n 3, 1) := by decide +kernel
theorem dX5_toldByCut_5 : decode cX5_toldByCut 5 = .ok (.iload_n 3, 1) := by decide +kernel
theorem dX5_toldByCut_6 : decode cX5_toldByCut 6 = .ok (.aload_n 0, 1) := by decide +kernel
theorem dX5_toldByCut_7 : decode cX5_toldByCut 7 = .ok (.getfield 12, 3) := by decide +kernel
theorem dX5_toldByCut_10 : decode cX5_toldByCut 10 = .ok (.getfield 83, 3) := by decide +kernel
theorem dX5_toldByCut_13 : decode cX5_toldByCut 13 = .ok (.iload_n 1, 1) := by decide +kernel
theorem dX5_toldByCut_14 : decode cX5_toldByCut 14 = .ok (.iaload, 1) := by decide +kernel
theorem dX5_toldByCut_15 : decode cX5_toldByCut 15 = .ok (.if_icmp .ge 44, 3) := by decide +kernel
theorem dX5_toldByCut_18 : decode cX5_toldByCut 18 = .ok (.aload_n 0, 1) := by decide +kernel
theorem dX5_toldByCut_19 : decode cX5_toldByCut 19 = .ok (.getfield 12, 3) := by decide +kernel
theorem dX5_toldByCut_22 : decode cX5_toldByCut 22 = .ok (.iload_n 1, 1) := by decide +kernel
theorem dX5_toldByCut_23 : decode cX5_toldByCut 23 = .ok (.iload_n 3, 1) := by decide +kernel
theorem dX5_toldByCut_24 : decode cX5_toldByCut 24 = .ok (.invokevirtual 86, 3) := by decide +kernel
theorem dX5_toldByCut_27 : decode cX5_toldByCut 27 = .ok (.istore 4, 2) := by decide +kernel
theorem dX5_toldByCut_29 : decode cX5_toldByCut 29 = .ok (.aload_n 0, 1) := by decide +kernel
theorem dX5_toldByCut_30 : decode cX5_toldByCut 30 = .ok (.getfield 31, 3) := by decide +kernel
theorem dX5_toldByCut_33 : decode cX5_toldByCut 33 = .ok (.iload 4, 2) := by decide +kernel
theorem dX5_toldByCut_35 : decode cX5_toldByCut 35 = .ok (.invokevirtual 90, 3) := by decide +kernel
theorem dX5_toldByCut_38 : decode cX5_toldByCut 38 = .ok (.ifCond .ne 15, 3) := by decide +kernel
theorem dX5_toldByCut_41 : decode cX5_toldByCut 41 = .ok (.iload_n 2, 1) := by decide +kernel
theorem dX5_toldByCut_42 : decode cX5_toldByCut 42 = .ok (.bipush (-9), 2) := by decide +kernel
theorem dX5_toldByCut_44 : decode cX5_toldByCut 44 = .ok (.if_icmp .eq 6, 3) := by decide +kernel
theorem dX5_toldByCut_47 : decode cX5_toldByCut 47 = .ok (.bipush (-9), 2) := by decide +kernel
theorem dX5_toldByCut_49 : decode cX5_toldByCut 49 = .ok (.ireturn, 1) := by decide +kernel
theorem dX5_toldByCut_50 : decode cX5_toldByCut 50 = .ok (.iload 4, 2) := by decide +kernel
theorem dX5_toldByCut_52 : decode cX5_toldByCut 52 = .ok (.istore_n 2, 1) := by decide +kernel
theorem dX5_toldByCut_53 : decode cX5_toldByCut 53 = .ok (.iinc 3 1, 3) := by decide +kernel
theorem dX5_toldByCut_56 : decode cX5_toldByCut 56 = .ok (.goto (-51), 3) := by decide +kernel
theorem dX5_toldByCut_59 : decode cX5_toldByCut 59 = .ok (.iload_n 2, 1) := by decide +kernel
theorem dX5_toldByCut_60 : decode cX5_toldByCut 60 = .ok (.bipush (-9), 2) := by decide +kernel
theorem dX5_toldByCut_62 : decode cX5_toldByCut 62 = .ok (.if_icmp .eq 14, 3) := by decide +kernel
theorem dX5_toldByCut_65 : decode cX5_toldByCut 65 = .ok (.aload_n 0, 1) := by decide +kernel
theorem dX5_toldByCut_66 : decode cX5_toldByCut 66 = .ok (.getfield 31, 3) := by decide +kernel
theorem dX5_toldByCut_69 : decode cX5_toldByCut 69 = .ok (.iload_n 2, 1) := by decide +kernel
theorem dX5_toldByCut_70 : decode cX5_toldByCut 70 = .ok (.invokevirtual 118, 3) := by decide +kernel
theorem dX5_toldByCut_73 : decode cX5_toldByCut 73 = .ok (.ifCond .eq 8, 3) := by decide +kernel
theorem dX5_toldByCut_76 : decode cX5_toldByCut 76 = .ok (.bipush (-9), 2) := by decide +kernel
theorem dX5_toldByCut_78 : decode cX5_toldByCut 78 = .ok (.goto 7, 3) := by decide +kernel
theorem dX5_toldByCut_81 : decode cX5_toldByCut 81 = .ok (.iload_n 2, 1) := by decide +kernel
theorem dX5_toldByCut_82 : decode cX5_toldByCut 82 = .ok (.invokestatic 121, 3) := by decide +kernel
theorem dX5_toldByCut_85 : decode cX5_toldByCut 85 = .ok (.ireturn, 1) := by decide +kernel
theorem dX5_isSolved_0 : decode cX5_isSolved 0 = .ok (.aload_n 0, 1) := by decide +kernel
theorem dX5_isSolved_1 : decode cX5_isSolved 1 = .ok (.invokevirtual 93, 3) := by decide +kernel
theorem dX5_isSolved_4 : decode cX5_isSolved 4 = .ok (.bipush (-9), 2) := by decide +kernel
theorem dX5_isSolved_6 : decode cX5_isSolved 6 = .ok (.if_icmp .ne 19, 3) := by decide +kernel
theorem dX5_isSolved_9 : decode cX5_isSolved 9 = .ok (.aload_n 0, 1) := by decide +kernel
theorem dX5_isSolved_10 : decode cX5_isSolved 10 = .ok (.getfield 31, 3) := by decide +kernel
theorem dX5_isSolved_13 : decode cX5_isSolved 13 = .ok (.invokevirtual 124, 3) := by decide +kernel
theorem dX5_isSolved_16 : decode cX5_isSolved 16 = .ok (.bipush (-9), 2) := by decide +kernel
theorem dX5_isSolved_18 : decode cX5_isSolved 18 = .ok (.if_icmp .ne 7, 3) := by decide +kernel
theorem dX5_isSolved_21 : decode cX5_isSolved 21 = .ok (.iconst 1, 1) := by decide +kernel
theorem dX5_isSolved_22 : decode cX5_isSolved 22 = .ok (.goto 4, 3) := by decide +kernel
theorem dX5_isSolved_25 : decode cX5_isSolved 25 = .ok (.iconst 0, 1) := by decide +kernel
theorem dX5_isSolved_26 : decode cX5_isSolved 26 = .ok (.ireturn, 1) := by decide +kernel
theorem dX5_canMake_0 : decode cX5_canMake 0 = .ok (.aload_n 0, 1) := by decide +kernel
theorem dX5_canMake_1 : decode cX5_canMake 1 = .ok (.getfield 22, 3) := by decide +kernel
theorem dX5_canMake_4 : decode cX5_canMake 4 = .ok (.iload_n 1, 1) := by decide +kernel
theorem dX5_canMake_5 : decode cX5_canMake 5 = .ok (.bipush 100, 2) := by decide +kernel
theorem dX5_canMake_7 : decode cX5_canMake 7 = .ok (.idiv, 1) := by decide +kernel
theorem dX5_canMake_8 : decode cX5_canMake 8 = .ok (.invokevirtual 127, 3) := by decide +kernel
theorem dX5_canMake_11 : decode cX5_canMake 11 = .ok (.ifCond .eq 38, 3) := by decide +kernel
theorem dX5_canMake_14 : decode cX5_canMake 14 = .ok (.aload_n 0, 1) := by decide +kernel
theorem dX5_canMake_15 : decode cX5_canMake 15 = .ok (.getfield 31, 3) := by decide +kernel
theorem dX5_canMake_18 : decode cX5_canMake 18 = .ok (.iload_n 1, 1) := by decide +kernel
theorem dX5_canMake_19 : decode cX5_canMake 19 = .ok (.invokevirtual 90, 3) := by decide +kernel
theorem dX5_canMake_22 : decode cX5_canMake 22 = .ok (.ifCond .ne 27, 3) := by decide +kernel
theorem dX5_canMake_25 : decode cX5_canMake 25 = .ok (.aload_n 0, 1) := by decide +kernel
theorem dX5_canMake_26 : decode cX5_canMake 26 = .ok (.getfield 31, 3) := by decide +kernel
theorem dX5_canMake_29 : decode cX5_canMake 29 = .ok (.iload_n 1, 1) := by decide +kernel
theorem dX5_canMake_30 : decode cX5_canMake 30 = .ok (.invokevirtual 118, 3) := by decide +kernel
theorem dX5_canMake_33 : decode cX5_canMake 33 = .ok (.ifCond .ne 16, 3) := by decide +kernel
theorem dX5_canMake_36 : decode cX5_canMake 36 = .ok (.aload_n 0, 1) := by decide +kernel
theorem dX5_canMake_37 : decode cX5_canMake 37 = .ok (.invokevirtual 93, 3) := by decide +kernel
theorem dX5_canMake_40 : decode cX5_canMake 40 = .ok (.bipush (-9), 2) := by decide +kernel
theorem dX5_canMake_42 : decode cX5_canMake 42 = .ok (.if_icmp .ne 7, 3) := by decide +kernel
theorem dX5_canMake_45 : decode cX5_canMake 45 = .ok (.iconst 1, 1) := by decide +kernel
theorem dX5_canMake_46 : decode cX5_canMake 46 = .ok (.goto 4, 3) := by decide +kernel
theorem dX5_canMake_49 : decode cX5_canMake 49 = .ok (.iconst 0, 1) := by decide +kernel
theorem dX5_canMake_50 : decode cX5_canMake 50 = .ok (.ireturn, 1) := by decide +kernel
theorem dX5_canLearn_0 : decode cX5_canLearn 0 = .ok (.aload_n 0, 1) := by decide +kernel
theorem dX5_canLearn_1 : decode cX5_canLearn 1 = .ok (.getfield 18, 3) := by decide +kernel
theorem dX5_canLearn_4 : decode cX5_canLearn 4 = .ok (.ifCond .ne 16, 3) := by decide +kernel
theorem dX5_canLearn_7 : decode cX5_canLearn 7 = .ok (.aload_n 0, 1) := by decide +kernel
theorem dX5_canLearn_8 : decode cX5_canLearn 8 = .ok (.invokevirtual 93, 3) := by decide +kernel
theorem dX5_canLearn_11 : decode cX5_canLearn 11 = .ok (.bipush (-9), 2) := by decide +kernel
theorem dX5_canLearn_13 : decode cX5_canLearn 13 = .ok (.if_icmp .eq 7, 3) := by decide +kernel
theorem dX5_canLearn_16 : decode cX5_canLearn 16 = .ok (.iconst 1, 1) := by decide +kernel
theorem dX5_canLearn_17 : decode cX5_canLearn 17 = .ok (.goto 4, 3) := by decide +kernel
theorem dX5_canLearn_20 : decode cX5_canLearn 20 = .ok (.iconst 0, 1) := by decide +kernel
theorem dX5_canLearn_21 : decode cX5_canLearn 21 = .ok (.ireturn, 1) := by decide +kernel
theorem dX5_made_0 : decode cX5_made 0 = .ok (.aload_n 0, 1) := by decide +kernel
theorem dX5_made_1 : decode cX5_made 1 = .ok (.iload_n 1, 1) := by decide +kernel
theorem dX5_made_2 : decode cX5_made 2 = .ok (.invokevirtual 130, 3) := by decide +kernel
theorem dX5_made_5 : decode cX5_made 5 = .ok (.ifCond .ne 5, 3) := by decide +kernel
theorem dX5_made_8 : decode cX5_made 8 = .ok (.iconst 0, 1) := by decide +kernel
theorem dX5_made_9 : decode cX5_made 9 = .ok (.ireturn, 1) := by decide +kernel
theorem dX5_made_10 : decode cX5_made 10 = .ok (.aload_n 0, 1) := by decide +kernel
theorem dX5_made_11 : decode cX5_made 11 = .ok (.getfield 31, 3) := by decide +kernel
theorem dX5_made_14 : decode cX5_made 14 = .ok (.iload_n 1, 1) := by decide +kernel
theorem dX5_made_15 : decode cX5_made 15 = .ok (.aload_n 0, 1) := by decide +kernel
theorem dX5_made_16 : decode cX5_made 16 = .ok (.getfield 31, 3) := by decide +kernel
theorem dX5_made_19 : decode cX5_made 19 = .ok (.invokevirtual 104, 3) := by decide +kernel
theorem dX5_made_22 : decode cX5_made 22 = .ok (.iconst 1, 1) := by decide +kernel
theorem dX5_made_23 : decode cX5_made 23 = .ok (.iadd, 1) := by decide +kernel
theorem dX5_made_24 : decode cX5_made 24 = .ok (.iconst (-1), 1) := by decide +kernel
theorem dX5_made_25 : decode cX5_made 25 = .ok (.invokevirtual 107, 3) := by decide +kernel
theorem dX5_made_28 : decode cX5_made 28 = .ok (.aload_n 0, 1) := by decide +kernel
theorem dX5_made_29 : decode cX5_made 29 = .ok (.invokevirtual 43, 3) := by decide +kernel
theorem dX5_made_32 : decode cX5_made 32 = .ok (.iconst 1, 1) := by decide +kernel
theorem dX5_made_33 : decode cX5_made 33 = .ok (.ireturn, 1) := by decide +kernel
theorem dX5_left_0 : decode cX5_left 0 = .ok (.aload_n 0, 1) := by decide +kernel
theorem dX5_left_1 : decode cX5_left 1 = .ok (.getfield 31, 3) := by decide +kernel
theorem dX5_left_4 : decode cX5_left 4 = .ok (.aload_n 0, 1) := by decide +kernel
theorem dX5_left_5 : decode cX5_left 5 = .ok (.getfield 31, 3) := by decide +kernel
theorem dX5_left_8 : decode cX5_left 8 = .ok (.invokevirtual 104, 3) := by decide +kernel
theorem dX5_left_11 : decode cX5_left 11 = .ok (.iconst 1, 1) := by decide +kernel
theorem dX5_left_12 : decode cX5_left 12 = .ok (.isub, 1) := by decide +kernel
theorem dX5_left_13 : decode cX5_left 13 = .ok (.invokevirtual 133, 3) := by decide +kernel
theorem dX5_left_16 : decode cX5_left 16 = .ok (.aload_n 0, 1) := by decide +kernel
theorem dX5_left_17 : decode cX5_left 17 = .ok (.invokevirtual 43, 3) := by decide +kernel
theorem dX5_left_20 : decode cX5_left 20 = .ok (.return_, 1) := by decide +kernel
theorem dX5_forgetFirstFree_0 : decode cX5_forgetFirstFree 0 = .ok (.iconst 0, 1) := by decide +kernel
theorem dX5_forgetFirstFree_1 : decode cX5_forgetFirstFree 1 = .ok (.istore_n 1, 1) := by decide +kernel
theorem dX5_forgetFirstFree_2 : decode cX5_forgetFirstFree 2 = .ok (.iload_n 1, 1) := by decide +kernel
theorem dX5_forgetFirstFree_3 : decode cX5_forgetFirstFree 3 = .ok (.aload_n 0, 1) := by decide +kernel
theorem dX5_forgetFirstFree_4 : decode cX5_forgetFirstFree 4 = .ok (.getfield 12, 3) := by decide +kernel
theorem dX5_forgetFirstFree_7 : decode cX5_forgetFirstFree 7 = .ok (.getfield 35, 3) := by decide +kernel
theorem dX5_forgetFirstFree_10 : decode cX5_forgetFirstFree 10 = .ok (.if_icmp .ge 43, 3) := by decide +kernel
theorem dX5_forgetFirstFree_13 : decode cX5_forgetFirstFree 13 = .ok (.aload_n 0, 1) := by decide +kernel
theorem dX5_forgetFirstFree_14 : decode cX5_forgetFirstFree 14 = .ok (.getfield 31, 3) := by decide +kernel
theorem dX5_forgetFirstFree_17 : decode cX5_forgetFirstFree 17 = .ok (.bipush 10, 2) := by decide +kernel
theorem dX5_forgetFirstFree_19 : decode cX5_forgetFirstFree 19 = .ok (.iload_n 1, 1) := by decide +kernel
theorem dX5_forgetFirstFree_20 : decode cX5_forgetFirstFree 20 = .ok (.iadd, 1) := by decide +kernel
theorem dX5_forgetFirstFree_21 : decode cX5_forgetFirstFree 21 = .ok (.invokevirtual 136, 3) := by decide +kernel
theorem dX5_forgetFirstFree_24 : decode cX5_forgetFirstFree 24 = .ok (.ifCond .ne 23, 3) := by decide +kernel
theorem dX5_forgetFirstFree_27 : decode cX5_forgetFirstFree 27 = .ok (.aload_n 0, 1) := by decide +kernel
theorem dX5_forgetFirstFree_28 : decode cX5_forgetFirstFree 28 = .ok (.getfield 12, 3) := by decide +kernel
theorem dX5_forgetFirstFree_31 : decode cX5_forgetFirstFree 31 = .ok (.iload_n 1, 1) := by decide +kernel
theorem dX5_forgetFirstFree_32 : decode cX5_forgetFirstFree 32 = .ok (.invokevirtual 139, 3) := by decide +kernel
theorem dX5_forgetFirstFree_35 : decode cX5_forgetFirstFree 35 = .ok (.aload_n 0, 1) := by decide +kernel
theorem dX5_forgetFirstFree_36 : decode cX5_forgetFirstFree 36 = .ok (.getfield 31, 3) := by decide +kernel
theorem dX5_forgetFirstFree_39 : decode cX5_forgetFirstFree 39 = .ok (.bipush 10, 2) := by decide +kernel
theorem dX5_forgetFirstFree_41 : decode cX5_forgetFirstFree 41 = .ok (.iload_n 1, 1) := by decide +kernel
theorem dX5_forgetFirstFree_42 : decode cX5_forgetFirstFree 42 = .ok (.iadd, 1) := by decide +kernel
theorem dX5_forgetFirstFree_43 : decode cX5_forgetFirstFree 43 = .ok (.invokevirtual 142, 3) := by decide +kernel
theorem dX5_forgetFirstFree_46 : decode cX5_forgetFirstFree 46 = .ok (.return_, 1) := by decide +kernel
theorem dX5_forgetFirstFree_47 : decode cX5_forgetFirstFree 47 = .ok (.iinc 1 1, 3) := by decide +kernel
theorem dX5_forgetFirstFree_50 : decode cX5_forgetFirstFree 50 = .ok (.goto (-48), 3) := by decide +kernel
theorem dX5_forgetFirstFree_53 : decode cX5_forgetFirstFree 53 = .ok (.return_, 1) := by decide +kernel
theorem dX6_init_0 : decode cX6_init 0 = .ok (.aload_n 0, 1) := by decide +kernel
theorem dX6_init_1 : decode cX6_init 1 = .ok (.invokespecial 3, 3) := by decide +kernel
theorem dX6_init_4 : decode cX6_init 4 = .ok (.aload_n 0, 1) := by decide +kernel
theorem dX6_init_5 : decode cX6_init 5 = .ok (.iconst 1, 1) := by decide +kernel
theorem dX6_init_6 : decode cX6_init 6 = .ok (.putfield 9, 3) := by decide +kernel
theorem dX6_init_9 : decode cX6_init 9 = .ok (.aload_n 0, 1) := by decide +kernel
theorem dX6_init_10 : decode cX6_init 10 = .ok (.iconst 0, 1) := by decide +kernel
theorem dX6_init_11 : decode cX6_init 11 = .ok (.putfield 15, 3) := by decide +kernel
theorem dX6_init_14 : decode cX6_init 14 = .ok (.aload_n 0, 1) := by decide +kernel
theorem dX6_init_15 : decode cX6_init 15 = .ok (.iconst 4, 1) := by decide +kernel
theorem dX6_init_16 : decode cX6_init 16 = .ok (.newarray .int, 2) := by decide +kernel
theorem dX6_init_18 : decode cX6_init 18 = .ok (.putfield 18, 3) := by decide +kernel
theorem dX6_init_21 : decode cX6_init 21 = .ok (.aload_n 0, 1) := by decide +kernel
theorem dX6_init_22 : decode cX6_init 22 = .ok (.bipush 6, 2) := by decide +kernel
theorem dX6_init_24 : decode cX6_init 24 = .ok (.iconst 4, 1) := by decide +kernel
theorem dX6_init_25 : decode cX6_init 25 = .ok (.multianewarray 22 2, 4) := by decide +kernel
theorem dX6_init_29 : decode cX6_init 29 = .ok (.putfield 24, 3) := by decide +kernel
theorem dX6_init_32 : decode cX6_init 32 = .ok (.aload_n 0, 1) := by decide +kernel
theorem dX6_init_33 : decode cX6_init 33 = .ok (.bipush 6, 2) := by decide +kernel
theorem dX6_init_35 : decode cX6_init 35 = .ok (.newarray .int, 2) := by decide +kernel
theorem dX6_init_37 : decode cX6_init 37 = .ok (.putfield 27, 3) := by decide +kernel
theorem dX6_init_40 : decode cX6_init 40 = .ok (.aload_n 0, 1) := by decide +kernel
theorem dX6_init_41 : decode cX6_init 41 = .ok (.getfield 18, 3) := by decide +kernel
theorem dX6_init_44 : decode cX6_init 44 = .ok (.iconst 0, 1) := by decide +kernel
theorem dX6_init_45 : decode cX6_init 45 = .ok (.bipush 9, 2) := by decide +kernel
theorem dX6_init_47 : decode cX6_init 47 = .ok (.iastore, 1) := by decide +kernel
theorem dX6_init_48 : decode cX6_init 48 = .ok (.return_, 1) := by decide +kernel
theorem dX6_hasNumber_0 : decode cX6_hasNumber 0 = .ok (.iload_n 1, 1) := by decide +kernel
theorem dX6_hasNumber_1 : decode cX6_hasNumber 1 = .ok (.ifCond .lt 15, 3) := by decide +kernel
theorem dX6_hasNumber_4 : decode cX6_hasNumber 4 = .ok (.iload_n 1, 1) := by decide +kernel
theorem dX6_hasNumber_5 : decode cX6_hasNumber 5 = .ok (.aload_n 0, 1) := by decide +kernel
theorem dX6_hasNumber_6 : decode cX6_hasNumber 6 = .ok (.getfield 9, 3) := by decide +kernel
theorem dX6_hasNumber_9 : decode cX6_hasNumber 9 = .ok (.if_icmp .ge 7, 3) := by decide +kernel
theorem dX6_hasNumber_12 : decode cX6_hasNumber 12 = .ok (.iconst 1, 1) := by decide +kernel
theorem dX6_hasNumber_13 : decode cX6_hasNumber 13 = .ok (.goto 4, 3) := by decide +kernel
theorem dX6_hasNumber_16 : decode cX6_hasNumber 16 = .ok (.iconst 0, 1) := by decide +kernel
theorem dX6_hasNumber_17 : decode cX6_hasNumber 17 = .ok (.ireturn, 1) := by decide +kernel
theorem dX6_hasRule_0 : decode cX6_hasRule 0 = .ok (.iload_n 1, 1) := by decide +kernel
theorem dX6_hasRule_1 : decode cX6_hasRule 1 = .ok (.ifCond .lt 15, 3) := by decide +kernel
theorem dX6_hasRule_4 : decode cX6_hasRule 4 = .ok (.iload_n 1, 1) := by decide +kernel
theorem dX6_hasRule_5 : decode cX6_hasRule 5 = .ok (.aload_n 0, 1) := by decide +kernel
theorem dX6_hasRule_6 : decode cX6_hasRule 6 = .ok (.getfield 15, 3) := by decide +kernel
theorem dX6_hasRule_9 : decode cX6_hasRule 9 = .ok (.if_icmp .ge 7, 3) := by decide +kernel
theorem dX6_hasRule_12 : decode cX6_hasRule 12 = .ok (.iconst 1, 1) := by decide +kernel
theorem dX6_hasRule_13 : decode cX6_hasRule 13 = .ok (.goto 4, 3) := by decide +kernel
theorem dX6_hasRule_16 : decode cX6_hasRule 16 = .ok (.iconst 0, 1) := by decide +kernel
theorem dX6_hasRule_17 : decode cX6_hasRule 17 = .ok (.ireturn, 1) := by decide +kernel
theorem dX7_init_0 : decode cX7_init 0 = .ok (.aload_n 0, 1) := by decide +kernel
theorem dX7_init_1 : decode cX7_init 1 = .ok (.invokespecial 3, 3) := by decide +kernel
theorem dX7_init_4 : decode cX7_init 4 = .ok (.aload_n 0, 1) := by decide +kernel
theorem dX7_init_5 : decode cX7_init 5 = .ok (.bipush 60, 2) := by decide +kernel
theorem dX7_init_7 : decode cX7_init 7 = .ok (.newarray .int, 2) := by decide +kernel
theorem dX7_init_9 : decode cX7_init 9 = .ok (.putfield 9, 3) := by decide +kernel
theorem dX7_init_12 : decode cX7_init 12 = .ok (.aload_n 0, 1) := by decide +kernel
theorem dX7_init_13 : decode cX7_init 13 = .ok (.iconst 0, 1) := by decide +kernel
theorem dX7_init_14 : decode cX7_init 14 = .ok (.putfield 15, 3) := by decide +kernel
theorem dX7_init_17 : decode cX7_init 17 = .ok (.return_, 1) := by decide +kernel
theorem dX7_put_0 : decode cX7_put 0 = .ok (.aload_n 0, 1) := by decide +kernel
theorem dX7_put_1 : decode cX7_put 1 = .ok (.getfield 15, 3) := by decide +kernel
theorem dX7_put_4 : decode cX7_put 4 = .ok (.bipush 60, 2) := by decide +kernel
theorem dX7_put_6 : decode cX7_put 6 = .ok (.if_icmp .ge 23, 3) := by decide +kernel
theorem dX7_put_9 : decode cX7_put 9 = .ok (.aload_n 0, 1) := by decide +kernel
theorem dX7_put_10 : decode cX7_put 10 = .ok (.getfield 9, 3) := by decide +kernel
theorem dX7_put_13 : decode cX7_put 13 = .ok (.aload_n 0, 1) := by decide +kernel
theorem dX7_put_14 : decode cX7_put 14 = .ok (.getfield 15, 3) := by decide +kernel
theorem dX7_put_17 : decode cX7_put 17 = .ok (.iload_n 1, 1) := by decide +kernel
theorem dX7_put_18 : decode cX7_put 18 = .ok (.iastore, 1) := by decide +kernel
theorem dX7_put_19 : decode cX7_put 19 = .ok (.aload_n 0, 1) := by decide +kernel
theorem dX7_put_20 : decode cX7_put 20 = .ok (.dup, 1) := by decide +kernel
theorem dX7_put_21 : decode cX7_put 21 = .ok (.getfield 15, 3) := by decide +kernel
theorem dX7_put_24 : decode cX7_put 24 = .ok (.iconst 1, 1) := by decide +kernel
theorem dX7_put_25 : decode cX7_put 25 = .ok (.iadd, 1) := by decide +kernel
theorem dX7_put_26 : decode cX7_put 26 = .ok (.putfield 15, 3) := by decide +kernel
theorem dX7_put_29 : decode cX7_put 29 = .ok (.return_, 1) := by decide +kernel
theorem dX7_firstFault_0 : decode cX7_firstFault 0 = .ok (.iconst 0, 1) := by decide +kernel
theorem dX7_firstFault_1 : decode cX7_firstFault 1 = .ok (.istore_n 1, 1) := by decide +kernel
theorem dX7_firstFault_2 : decode cX7_firstFault 2 = .ok (.iload_n 1, 1) := by decide +kernel
theorem dX7_firstFault_3 : decode cX7_firstFault 3 = .ok (.aload_n 0, 1) := by decide +kernel
theorem dX7_firstFault_4 : decode cX7_firstFault 4 = .ok (.getfield 15, 3) := by decide +kernel
theorem dX7_firstFault_7 : decode cX7_firstFault 7 = .ok (.if_icmp .ge 19, 3) := by decide +kernel
theorem dX7_firstFault_10 : decode cX7_firstFault 10 = .ok (.aload_n 0, 1) := by decide +kernel
theorem dX7_firstFault_11 : decode cX7_firstFault 11 = .ok (.iload_n 1, 1) := by decide +kernel
theorem dX7_firstFault_12 : decode cX7_firstFault 12 = .ok (.invokevirtual 19, 3) := by decide +kernel
theorem dX7_firstFault_15 : decode cX7_firstFault 15 = .ok (.ifCond .ne 5, 3) := by decide +kernel
theorem dX7_firstFault_18 : decode cX7_firstFault 18 = .ok (.iload_n 1, 1) := by decide +kernel
theorem dX7_firstFault_19 : decode cX7_firstFault 19 = .ok (.ireturn, 1) := by decide +kernel
theorem dX7_firstFault_20 : decode cX7_firstFault 20 = .ok (.iinc 1 1, 3) := by decide +kernel
theorem dX7_firstFault_23 : decode cX7_firstFault 23 = .ok (.goto (-21), 3) := by decide +kernel
theorem dX7_firstFault_26 : decode cX7_firstFault 26 = .ok (.aload_n 0, 1) := by decide +kernel
theorem dX7_firstFault_27 : decode cX7_firstFault 27 = .ok (.invokevirtual 23, 3) := by decide +kernel
theorem dX7_firstFault_30 : decode cX7_firstFault 30 = .ok (.ifCond .eq 8, 3) := by decide +kernel
theorem dX7_firstFault_33 : decode cX7_firstFault 33 = .ok (.bipush (-9), 2) := by decide +kernel
theorem dX7_firstFault_35 : decode cX7_firstFault 35 = .ok (.goto 7, 3) := by decide +kernel
theorem dX7_firstFault_38 : decode cX7_firstFault 38 = .ok (.aload_n 0, 1) := by decide +kernel
theorem dX7_firstFault_39 : decode cX7_firstFault 39 = .ok (.getfield 15, 3) := by decide +kernel
theorem dX7_firstFault_42 : decode cX7_firstFault 42 = .ok (.ireturn, 1) := by decide +kernel
theorem dX7_canStand_0 : decode cX7_canStand 0 = .ok (.aload_n 0, 1) := by decide +kernel
theorem dX7_canStand_1 : decode cX7_canStand 1 = .ok (.getfield 9, 3) := by decide +kernel
theorem dX7_canStand_4 : decode cX7_canStand 4 = .ok (.iload_n 1, 1) := by decide +kernel
theorem dX7_canStand_5 : decode cX7_canStand 5 = .ok (.iaload, 1) := by decide +kernel
theorem dX7_canStand_6 : decode cX7_canStand 6 = .ok (.istore_n 2, 1) := by decide +kernel
theorem dX7_canStand_7 : decode cX7_canStand 7 = .ok (.iload_n 1, 1) := by decide +kernel
theorem dX7_canStand_8 : decode cX7_canStand 8 = .ok (.ifCond .ne 15, 3) := by decide +kernel
theorem dX7_canStand_11 : decode cX7_canStand 11 = .ok (.iload_n 2, 1) := by decide +kernel
theorem dX7_canStand_12 : decode cX7_canStand 12 = .ok (.bipush 76, 2) := by decide +kernel
theorem dX7_canStand_14 : decode cX7_canStand 14 = .ok (.if_icmp .ne 7, 3) := by decide +kernel
theorem dX7_canStand_17 : decode cX7_canStand 17 = .ok (.iconst 1, 1) := by decide +kernel
theorem dX7_canStand_18 : decode cX7_canStand 18 = .ok (.goto 4, 3) := by decide +kernel
theorem dX7_canStand_21 : decode cX7_canStand 21 = .ok (.iconst 0, 1) := by decide +kernel
theorem dX7_canStand_22 : decode cX7_canStand 22 = .ok (.ireturn, 1) := by decide +kernel
theorem dX7_canStand_23 : decode cX7_canStand 23 = .ok (.iload_n 1, 1) := by decide +kernel
theorem dX7_canStand_24 : decode cX7_canStand 24 = .ok (.iconst 1, 1) := by decide +kernel
theorem dX7_canStand_25 : decode cX7_canStand 25 = .ok (.if_icmp .ne 21, 3) := by decide +kernel
theorem dX7_canStand_28 : decode cX7_canStand 28 = .ok (.iload_n 2, 1) := by decide +kernel
theorem dX7_canStand_29 : decode cX7_canStand 29 = .ok (.bipush 49, 2) := by decide +kernel
theorem dX7_canStand_31 : decode cX7_canStand 31 = .ok (.if_icmp .lt 13, 3) := by decide +kernel
theorem dX7_canStand_34 : decode cX7_canStand 34 = .ok (.iload_n 2, 1) := by decide +kernel
theorem dX7_canStand_35 : decode cX7_canStand 35 = .ok (.bipush 52, 2) := by decide +kernel
theorem dX7_canStand_37 : decode cX7_canStand 37 = .ok (.if_icmp .gt 7, 3) := by decide +kernel
theorem dX7_canStand_40 : decode cX7_canStand 40 = .ok (.iconst 1, 1) := by decide +kernel
theorem dX7_canStand_41 : decode cX7_canStand 41 = .ok (.goto 4, 3) := by decide +kernel
theorem dX7_canStand_44 : decode cX7_canStand 44 = .ok (.iconst 0, 1) := by decide +kernel
theorem dX7_canStand_45 : decode cX7_canStand 45 = .ok (.ireturn, 1) := by decide +kernel
theorem dX7_canStand_46 : decode cX7_canStand 46 = .ok (.aload_n 0, 1) := by decide +kernel
theorem dX7_canStand_47 : decode cX7_canStand 47 = .ok (.invokevirtual 27, 3) := by decide +kernel
theorem dX7_canStand_50 : decode cX7_canStand 50 = .ok (.istore_n 3, 1) := by decide +kernel
theorem dX7_canStand_51 : decode cX7_canStand 51 = .ok (.iload_n 1, 1) := by decide +kernel
theorem dX7_canStand_52 : decode cX7_canStand 52 = .ok (.iconst 2, 1) := by decide +kernel
theorem dX7_canStand_53 : decode cX7_canStand 53 = .ok (.iload_n 3, 1) := by decide +kernel
theorem dX7_canStand_54 : decode cX7_canStand 54 = .ok (.iadd, 1) := by decide +kernel
theorem dX7_canStand_55 : decode cX7_canStand 55 = .ok (.if_icmp .ge 8, 3) := by decide +kernel
theorem dX7_canStand_58 : decode cX7_canStand 58 = .ok (.iload_n 2, 1) := by decide +kernel
theorem dX7_canStand_59 : decode cX7_canStand 59 = .ok (.invokestatic 31, 3) := by decide +kernel
theorem dX7_canStand_62 : decode cX7_canStand 62 = .ok (.ireturn, 1) := by decide +kernel
theorem dX7_canStand_63 : decode cX7_canStand 63 = .ok (.iload_n 1, 1) := by decide +kernel
theorem dX7_canStand_64 : decode cX7_canStand 64 = .ok (.iconst 2, 1) := by decide +kernel
theorem dX7_canStand_65 : decode cX7_canStand 65 = .ok (.isub, 1) := by decide +kernel
theorem dX7_canStand_66 : decode cX7_canStand 66 = .ok (.iload_n 3, 1) := by decide +kernel
theorem dX7_canStand_67 : decode cX7_canStand 67 = .ok (.isub, 1) := by decide +kernel
theorem dX7_canStand_68 : decode cX7_canStand 68 = .ok (.istore 4, 2) := by decide +kernel
theorem dX7_canStand_70 : decode cX7_canStand 70 = .ok (.iload 4, 2) := by decide +kernel
theorem dX7_canStand_72 : decode cX7_canStand 72 = .ok (.iload_n 3, 1) := by decide +kernel
theorem dX7_canStand_73 : decode cX7_canStand 73 = .ok (.iconst 4, 1) := by decide +kernel
theorem dX7_canStand_74 : decode cX7_canStand 74 = .ok (.iadd, 1) := by decide +kernel
theorem dX7_canStand_75 : decode cX7_canStand 75 = .ok (.idiv, 1) := by decide +kernel
theorem dX7_canStand_76 : decode cX7_canStand 76 = .ok (.bipush 6, 2) := by decide +kernel
theorem dX7_canStand_78 : decode cX7_canStand 78 = .ok (.if_icmp .lt 5, 3) := by decide +kernel
theorem dX7_canStand_81 : decode cX7_canStand 81 = .ok (.iconst 0, 1) := by decide +kernel
theorem dX7_canStand_82 : decode cX7_canStand 82 = .ok (.ireturn, 1) := by decide +kernel
theorem dX7_canStand_83 : decode cX7_canStand 83 = .ok (.aload_n 0, 1) := by decide +kernel
theorem dX7_canStand_84 : decode cX7_canStand 84 = .ok (.iload_n 1, 1) := by decide +kernel
theorem dX7_canStand_85 : decode cX7_canStand 85 = .ok (.iload 4, 2) := by decide +kernel
theorem dX7_canStand_87 : decode cX7_canStand 87 = .ok (.iload_n 3, 1) := by decide +kernel
theorem dX7_canStand_88 : decode cX7_canStand 88 = .ok (.iconst 4, 1) := by decide +kernel
theorem dX7_canStand_89 : decode cX7_canStand 89 = .ok (.iadd, 1) := by decide +kernel
theorem dX7_canStand_90 : decode cX7_canStand 90 = .ok (.irem, 1) := by decide +kernel
theorem dX7_canStand_91 : decode cX7_canStand 91 = .ok (.iload_n 3, 1) := by decide +kernel
theorem dX7_canStand_92 : decode cX7_canStand 92 = .ok (.invokevirtual 34, 3) := by decide +kernel
theorem dX7_canStand_95 : decode cX7_canStand 95 = .ok (.ireturn, 1) := by decide +kernel
theorem dX7_canStandInRule_0 : decode cX7_canStandInRule 0 = .ok (.aload_n 0, 1) := by decide +kernel
theorem dX7_canStandInRule_1 : decode cX7_canStandInRule 1 = .ok (.getfield 9, 3) := by decide +kernel
theorem dX7_canStandInRule_4 : decode cX7_canStandInRule 4 = .ok (.iload_n 1, 1) := by decide +kernel
theorem dX7_canStandInRule_5 : decode cX7_canStandInRule 5 = .ok (.iaload, 1) := by decide +kernel
theorem dX7_canStandInRule_6 : decode cX7_canStandInRule 6 = .ok (.istore 4, 2) := by decide +kernel
theorem dX7_canStandInRule_8 : decode cX7_canStandInRule 8 = .ok (.iload_n 2, 1) := by decide +kernel
theorem dX7_canStandInRule_9 : decode cX7_canStandInRule 9 = .ok (.ifCond .ne 16, 3) := by decide +kernel
theorem dX7_canStandInRule_12 : decode cX7_canStandInRule 12 = .ok (.iload 4, 2) := by decide +kernel
theorem dX7_canStandInRule_14 : decode cX7_canStandInRule 14 = .ok (.bipush 114, 2) := by decide +kernel
theorem dX7_canStandInRule_16 : decode cX7_canStandInRule 16 = .ok (.if_icmp .ne 7, 3) := by decide +kernel
theorem dX7_canStandInRule_19 : decode cX7_canStandInRule 19 = .ok (.iconst 1, 1) := by decide +kernel
theorem dX7_canStandInRule_20 : decode cX7_canStandInRule 20 = .ok (.goto 4, 3) := by decide +kernel
theorem dX7_canStandInRule_23 : decode cX7_canStandInRule 23 = .ok (.iconst 0, 1) := by decide +kernel
theorem dX7_canStandInRule_24 : decode cX7_canStandInRule 24 = .ok (.ireturn, 1) := by decide +kernel
theorem dX7_canStandInRule_25 : decode cX7_canStandInRule 25 = .ok (.iload_n 2, 1) := by decide +kernel
theorem dX7_canStandInRule_26 : decode cX7_canStandInRule 26 = .ok (.iload_n 3, 1) := by decide +kernel
theorem dX7_canStandInRule_27 : decode cX7_canStandInRule 27 = .ok (.if_icmp .gt 37, 3) := by decide +kernel
theorem dX7_canStandInRule_30 : decode cX7_canStandInRule 30 = .ok (.iload 4, 2) := by decide +kernel
theorem dX7_canStandInRule_32 : decode cX7_canStandInRule 32 = .ok (.bipush 48, 2) := by decide +kernel
theorem dX7_canStandInRule_34 : decode cX7_canStandInRule 34 = .ok (.if_icmp .lt 10, 3) := by decide +kernel
theorem dX7_canStandInRule_37 : decode cX7_canStandInRule 37 = .ok (.iload 4, 2) := by decide +kernel
theorem dX7_canStandInRule_39 : decode cX7_canStandInRule 39 = .ok (.bipush 51, 2) := by decide +kernel
theorem dX7_canStandInRule_41 : decode cX7_canStandInRule 41 = .ok (.if_icmp .le 17, 3) := by decide +kernel
theorem dX7_canStandInRule_44 : decode cX7_canStandInRule 44 = .ok (.iload 4, 2) := by decide +kernel
theorem dX7_canStandInRule_46 : decode cX7_canStandInRule 46 = .ok (.bipush 97, 2) := by decide +kernel
theorem dX7_canStandInRule_48 : decode cX7_canStandInRule 48 = .ok (.if_icmp .lt 14, 3) := by decide +kernel
theorem dX7_canStandInRule_51 : decode cX7_canStandInRule 51 = .ok (.iload 4, 2) := by decide +kernel
theorem dX7_canStandInRule_53 : decode cX7_canStandInRule 53 = .ok (.bipush 99, 2) := by decide +kernel
theorem dX7_canStandInRule_55 : decode cX7_canStandInRule 55 = .ok (.if_icmp .gt 7, 3) := by decide +kernel
theorem dX7_canStandInRule_58 : decode cX7_canStandInRule 58 = .ok (.iconst 1, 1) := by decide +kernel
theorem dX7_canStandInRule_59 : decode cX7_canStandInRule 59 = .ok (.goto 4, 3) := by decide +kernel
theorem dX7_canStandInRule_62 : decode cX7_canStandInRule 62 = .ok (.iconst 0, 1) := by decide +kernel
theorem dX7_canStandInRule_63 : decode cX7_canStandInRule 63 = .ok (.ireturn, 1) := by decide +kernel
theorem dX7_canStandInRule_64 : decode cX7_canStandInRule 64 = .ok (.iload_n 2, 1) := by decide +kernel
theorem dX7_canStandInRule_65 : decode cX7_canStandInRule 65 = .ok (.iload_n 3, 1) := by decide +kernel
theorem dX7_canStandInRule_66 : decode cX7_canStandInRule 66 = .ok (.iconst 1, 1) := by decide +kernel
theorem dX7_canStandInRule_67 : decode cX7_canStandInRule 67 = .ok (.iadd, 1) := by decide +kernel
theorem dX7_canStandInRule_68 : decode cX7_canStandInRule 68 = .ok (.if_icmp .ne 23, 3) := by decide +kernel
theorem dX7_canStandInRule_71 : decode cX7_canStandInRule 71 = .ok (.iload 4, 2) := by decide +kernel
theorem dX7_canStandInRule_73 : decode cX7_canStandInRule 73 = .ok (.bipush 43, 2) := by decide +kernel
theorem dX7_canStandInRule_75 : decode cX7_canStandInRule 75 = .ok (.if_icmp .eq 10, 3) := by decide +kernel
theorem dX7_canStandInRule_78 : decode cX7_canStandInRule 78 = .ok (.iload 4, 2) := by decide +kernel
theorem dX7_canStandInRule_80 : decode cX7_canStandInRule 80 = .ok (.bipush 45, 2) := by decide +kernel
theorem dX7_canStandInRule_82 : decode cX7_canStandInRule 82 = .ok (.if_icmp .ne 7, 3) := by decide +kernel
theorem dX7_canStandInRule_85 : decode cX7_canStandInRule 85 = .ok (.iconst 1, 1) := by decide +kernel
theorem dX7_canStandInRule_86 : decode cX7_canStandInRule 86 = .ok (.goto 4, 3) := by decide +kernel
theorem dX7_canStandInRule_89 : decode cX7_canStandInRule 89 = .ok (.iconst 0, 1) := by decide +kernel
theorem dX7_canStandInRule_90 : decode cX7_canStandInRule 90 = .ok (.ireturn, 1) := by decide +kernel
theorem dX7_canStandInRule_91 : decode cX7_canStandInRule 91 = .ok (.iload_n 2, 1) := by decide +kernel
theorem dX7_canStandInRule_92 : decode cX7_canStandInRule 92 = .ok (.iload_n 3, 1) := by decide +kernel
theorem dX7_canStandInRule_93 : decode cX7_canStandInRule 93 = .ok (.iconst 2, 1) := by decide +kernel
theorem dX7_canStandInRule_94 : decode cX7_canStandInRule 94 = .ok (.iadd, 1) := by decide +kernel
theorem dX7_canStandInRule_95 : decode cX7_canStandInRule 95 = .ok (.if_icmp .ne 23, 3) := by decide +kernel
theorem dX7_canStandInRule_98 : decode cX7_canStandInRule 98 = .ok (.iload 4, 2) := by decide +kernel
theorem dX7_canStandInRule_100 : decode cX7_canStandInRule 100 = .ok (.bipush 48, 2) := by decide +kernel
theorem dX7_canStandInRule_102 : decode cX7_canStandInRule 102 = .ok (.if_icmp .lt 14, 3) := by decide +kernel
theorem dX7_canStandInRule_105 : decode cX7_canStandInRule 105 = .ok (.iload 4, 2) := by decide +kernel
theorem dX7_canStandInRule_107 : decode cX7_canStandInRule 107 = .ok (.bipush 51, 2) := by decide +kernel
theorem dX7_canStandInRule_109 : decode cX7_canStandInRule 109 = .ok (.if_icmp .gt 7, 3) := by decide +kernel
theorem dX7_canStandInRule_112 : decode cX7_canStandInRule 112 = .ok (.iconst 1, 1) := by decide +kernel
theorem dX7_canStandInRule_113 : decode cX7_canStandInRule 113 = .ok (.goto 4, 3) := by decide +kernel
theorem dX7_canStandInRule_116 : decode cX7_canStandInRule 116 = .ok (.iconst 0, 1) := by decide +kernel
theorem dX7_canStandInRule_117 : decode cX7_canStandInRule 117 = .ok (.ireturn, 1) := by decide +kernel
theorem dX7_canStandInRule_118 : decode cX7_canStandInRule 118 = .ok (.aload_n 0, 1) := by decide +kernel
theorem dX7_canStandInRule_119 : decode cX7_canStandInRule 119 = .ok (.getfield 9, 3) := by decide +kernel
theorem dX7_canStandInRule_122 : decode cX7_canStandInRule 122 = .ok (.iload_n 1, 1) := by decide +kernel
theorem dX7_canStandInRule_123 : decode cX7_canStandInRule 123 = .ok (.iconst 1, 1) := by decide +kernel
theorem dX7_canStandInRule_124 : decode cX7_canStandInRule 124 = .ok (.isub, 1) := by decide +kernel
theorem dX7_canStandInRule_125 : decode cX7_canStandInRule 125 = .ok (.iaload, 1) := by decide +kernel
theorem dX7_canStandInRule_126 : decode cX7_canStandInRule 126 = .ok (.bipush 51, 2) := by decide +kernel
theorem dX7_canStandInRule_128 : decode cX7_canStandInRule 128 = .ok (.if_icmp .ne 18, 3) := by decide +kernel
theorem dX7_canStandInRule_131 : decode cX7_canStandInRule 131 = .ok (.iload 4, 2) := by decide +kernel
theorem dX7_canStandInRule_133 : decode cX7_canStandInRule 133 = .ok (.bipush 48, 2) := by decide +kernel
theorem dX7_canStandInRule_135 : decode cX7_canStandInRule 135 = .ok (.if_icmp .ne 7, 3) := by decide +kernel
theorem dX7_canStandInRule_138 : decode cX7_canStandInRule 138 = .ok (.iconst 1, 1) := by decide +kernel
theorem dX7_canStandInRule_139 : decode cX7_canStandInRule 139 = .ok (.goto 12, 3) := by decide +kernel
theorem dX7_canStandInRule_142 : decode cX7_canStandInRule 142 = .ok (.iconst 0, 1) := by decide +kernel
theorem dX7_canStandInRule_143 : decode cX7_canStandInRule 143 = .ok (.goto 8, 3) := by decide +kernel
theorem dX7_canStandInRule_146 : decode cX7_canStandInRule 146 = .ok (.iload 4, 2) := by decide +kernel
theorem dX7_canStandInRule_148 : decode cX7_canStandInRule 148 = .ok (.invokestatic 31, 3) := by decide +kernel
theorem dX7_canStandInRule_151 : decode cX7_canStandInRule 151 = .ok (.ireturn, 1) := by decide +kernel
theorem dX7_isWhole_0 : decode cX7_isWhole 0 = .ok (.aload_n 0, 1) := by decide +kernel
theorem dX7_isWhole_1 : decode cX7_isWhole 1 = .ok (.getfield 15, 3) := by decide +kernel
theorem dX7_isWhole_4 : decode cX7_isWhole 4 = .ok (.iconst 2, 1) := by decide +kernel
theorem dX7_isWhole_5 : decode cX7_isWhole 5 = .ok (.if_icmp .ge 5, 3) := by decide +kernel
theorem dX7_isWhole_8 : decode cX7_isWhole 8 = .ok (.iconst 0, 1) := by decide +kernel
theorem dX7_isWhole_9 : decode cX7_isWhole 9 = .ok (.ireturn, 1) := by decide +kernel
theorem dX7_isWhole_10 : decode cX7_isWhole 10 = .ok (.aload_n 0, 1) := by decide +kernel
theorem dX7_isWhole_11 : decode cX7_isWhole 11 = .ok (.invokevirtual 27, 3) := by decide +kernel
theorem dX7_isWhole_14 : decode cX7_isWhole 14 = .ok (.istore_n 1, 1) := by decide +kernel
theorem dX7_isWhole_15 : decode cX7_isWhole 15 = .ok (.aload_n 0, 1) := by decide +kernel
theorem dX7_isWhole_16 : decode cX7_isWhole 16 = .ok (.getfield 15, 3) := by decide +kernel
theorem dX7_isWhole_19 : decode cX7_isWhole 19 = .ok (.iconst 2, 1) := by decide +kernel
theorem dX7_isWhole_20 : decode cX7_isWhole 20 = .ok (.iload_n 1, 1) := by decide +kernel
theorem dX7_isWhole_21 : decode cX7_isWhole 21 = .ok (.iadd, 1) := by decide +kernel
theorem dX7_isWhole_22 : decode cX7_isWhole 22 = .ok (.if_icmp .lt 22, 3) := by decide +kernel
theorem dX7_isWhole_25 : decode cX7_isWhole 25 = .ok (.aload_n 0, 1) := by decide +kernel
theorem dX7_isWhole_26 : decode cX7_isWhole 26 = .ok (.getfield 15, 3) := by decide +kernel
theorem dX7_isWhole_29 : decode cX7_isWhole 29 = .ok (.iconst 2, 1) := by decide +kernel
theorem dX7_isWhole_30 : decode cX7_isWhole 30 = .ok (.isub, 1) := by decide +kernel
theorem dX7_isWhole_31 : decode cX7_isWhole 31 = .ok (.iload_n 1, 1) := by decide +kernel
theorem dX7_isWhole_32 : decode cX7_isWhole 32 = .ok (.isub, 1) := by decide +kernel
theorem dX7_isWhole_33 : decode cX7_isWhole 33 = .ok (.iload_n 1, 1) := by decide +kernel
theorem dX7_isWhole_34 : decode cX7_isWhole 34 = .ok (.iconst 4, 1) := by decide +kernel
theorem dX7_isWhole_35 : decode cX7_isWhole 35 = .ok (.iadd, 1) := by decide +kernel
theorem dX7_isWhole_36 : decode cX7_isWhole 36 = .ok (.irem, 1) := by decide +kernel
theorem dX7_isWhole_37 : decode cX7_isWhole 37 = .ok (.ifCond .ne 7, 3) := by decide +kernel
theorem dX7_isWhole_40 : decode cX7_isWhole 40 = .ok (.iconst 1, 1) := by decide +kernel
theorem dX7_isWhole_41 : decode cX7_isWhole 41 = .ok (.goto 4, 3) := by decide +kernel
theorem dX7_isWhole_44 : decode cX7_isWhole 44 = .ok (.iconst 0, 1) := by decide +kernel
theorem dX7_isWhole_45 : decode cX7_isWhole 45 = .ok (.ireturn, 1) := by decide +kernel
theorem dX7_numbersTold_0 : decode cX7_numbersTold 0 = .ok (.iconst 1, 1) := by decide +kernel
theorem dX7_numbersTold_1 : decode cX7_numbersTold 1 = .ok (.iconst 4, 1) := by decide +kernel
theorem dX7_numbersTold_2 : decode cX7_numbersTold 2 = .ok (.aload_n 0, 1) := by decide +kernel
theorem dX7_numbersTold_3 : decode cX7_numbersTold 3 = .ok (.getfield 9, 3) := by decide +kernel
theorem dX7_numbersTold_6 : decode cX7_numbersTold 6 = .ok (.iconst 1, 1) := by decide +kernel
theorem dX7_numbersTold_7 : decode cX7_numbersTold 7 = .ok (.iaload, 1) := by decide +kernel
theorem dX7_numbersTold_8 : decode cX7_numbersTold 8 = .ok (.bipush 48, 2) := by decide +kernel
theorem dX7_numbersTold_10 : decode cX7_numbersTold 10 = .ok (.isub, 1) := by decide +kernel
theorem dX7_numbersTold_11 : decode cX7_numbersTold 11 = .ok (.invokestatic 38, 3) := by decide +kernel
theorem dX7_numbersTold_14 : decode cX7_numbersTold 14 = .ok (.invokestatic 44, 3) := by decide +kernel
theorem dX7_numbersTold_17 : decode cX7_numbersTold 17 = .ok (.ireturn, 1) := by decide +kernel
theorem dX7_isFigure_0 : decode cX7_isFigure 0 = .ok (.iload_n 0, 1) := by decide +kernel
theorem dX7_isFigure_1 : decode cX7_isFigure 1 = .ok (.bipush 48, 2) := by decide +kernel
theorem dX7_isFigure_3 : decode cX7_isFigure 3 = .ok (.if_icmp .lt 13, 3) := by decide +kernel
theorem dX7_isFigure_6 : decode cX7_isFigure 6 = .ok (.iload_n 0, 1) := by decide +kernel
theorem dX7_isFigure_7 : decode cX7_isFigure 7 = .ok (.bipush 57, 2) := by decide +kernel
theorem dX7_isFigure_9 : decode cX7_isFigure 9 = .ok (.if_icmp .gt 7, 3) := by decide +kernel
theorem dX7_isFigure_12 : decode cX7_isFigure 12 = .ok (.iconst 1, 1) := by decide +kernel
theorem dX7_isFigure_13 : decode cX7_isFigure 13 = .ok (.goto 4, 3) := by decide +kernel
theorem dX7_isFigure_16 : decode cX7_isFigure 16 = .ok (.iconst 0, 1) := by decide +kernel
theorem dX7_isFigure_17 : decode cX7_isFigure 17 = .ok (.ireturn, 1) := by decide +kernel
theorem dX7_tellTo_0 : decode cX7_tellTo 0 = .ok (.aload_n 0, 1) := by decide +kernel
theorem dX7_tellTo_1 : decode cX7_tellTo 1 = .ok (.invokevirtual 27, 3) := by decide +kernel
theorem dX7_tellTo_4 : decode cX7_tellTo 4 = .ok (.istore_n 2, 1) := by decide +kernel
theorem dX7_tellTo_5 : decode cX7_tellTo 5 = .ok (.aload_n 1, 1) := by decide +kernel
theorem dX7_tellTo_6 : decode cX7_tellTo 6 = .ok (.iload_n 2, 1) := by decide +kernel
theorem dX7_tellTo_7 : decode cX7_tellTo 7 = .ok (.putfield 47, 3) := by decide +kernel
theorem dX7_tellTo_10 : decode cX7_tellTo 10 = .ok (.iconst 0, 1) := by decide +kernel
theorem dX7_tellTo_11 : decode cX7_tellTo 11 = .ok (.istore_n 3, 1) := by decide +kernel
theorem dX7_tellTo_12 : decode cX7_tellTo 12 = .ok (.iload_n 3, 1) := by decide +kernel
theorem dX7_tellTo_13 : decode cX7_tellTo 13 = .ok (.iconst 4, 1) := by decide +kernel
theorem dX7_tellTo_14 : decode cX7_tellTo 14 = .ok (.if_icmp .ge 35, 3) := by decide +kernel
theorem dX7_tellTo_17 : decode cX7_tellTo 17 = .ok (.aload_n 1, 1) := by decide +kernel
theorem dX7_tellTo_18 : decode cX7_tellTo 18 = .ok (.getfield 52, 3) := by decide +kernel
theorem dX7_tellTo_21 : decode cX7_tellTo 21 = .ok (.iload_n 3, 1) := by decide +kernel
theorem dX7_tellTo_22 : decode cX7_tellTo 22 = .ok (.iload_n 3, 1) := by decide +kernel
theorem dX7_tellTo_23 : decode cX7_tellTo 23 = .ok (.iload_n 2, 1) := by decide +kernel
theorem dX7_tellTo_24 : decode cX7_tellTo 24 = .ok (.if_icmp .ge 17, 3) := by decide +kernel
theorem dX7_tellTo_27 : decode cX7_tellTo 27 = .ok (.aload_n 0, 1) := by decide +kernel
theorem dX7_tellTo_28 : decode cX7_tellTo 28 = .ok (.getfield 9, 3) := by decide +kernel
theorem dX7_tellTo_31 : decode cX7_tellTo 31 = .ok (.iconst 2, 1) := by decide +kernel
theorem dX7_tellTo_32 : decode cX7_tellTo 32 = .ok (.iload_n 3, 1) := by decide +kernel
theorem dX7_tellTo_33 : decode cX7_tellTo 33 = .ok (.iadd, 1) := by decide +kernel
theorem dX7_tellTo_34 : decode cX7_tellTo 34 = .ok (.iaload, 1) := by decide +kernel
theorem dX7_tellTo_35 : decode cX7_tellTo 35 = .ok (.bipush 48, 2) := by decide +kernel
theorem dX7_tellTo_37 : decode cX7_tellTo 37 = .ok (.isub, 1) := by decide +kernel
theorem dX7_tellTo_38 : decode cX7_tellTo 38 = .ok (.goto 4, 3) := by decide +kernel
theorem dX7_tellTo_41 : decode cX7_tellTo 41 = .ok (.iconst 0, 1) := by decide +kernel
theorem dX7_tellTo_42 : decode cX7_tellTo 42 = .ok (.iastore, 1) := by decide +kernel
theorem dX7_tellTo_43 : decode cX7_tellTo 43 = .ok (.iinc 3 1, 3) := by decide +kernel
theorem dX7_tellTo_46 : decode cX7_tellTo 46 = .ok (.goto (-34), 3) := by decide +kernel
theorem dX7_tellTo_49 : decode cX7_tellTo 49 = .ok (.aload_n 1, 1) := by decide +kernel
theorem dX7_tellTo_50 : decode cX7_tellTo 50 = .ok (.bipush 6, 2) := by decide +kernel
theorem dX7_tellTo_52 : decode cX7_tellTo 52 = .ok (.aload_n 0, 1) := by decide +kernel
theorem dX7_tellTo_53 : decode cX7_tellTo 53 = .ok (.getfield 15, 3) := by decide +kernel
theorem dX7_tellTo_56 : decode cX7_tellTo 56 = .ok (.iconst 2, 1) := by decide +kernel
theorem dX7_tellTo_57 : decode cX7_tellTo 57 = .ok (.isub, 1) := by decide +kernel
theorem dX7_tellTo_58 : decode cX7_tellTo 58 = .ok (.iload_n 2, 1) := by decide +kernel
theorem dX7_tellTo_59 : decode cX7_tellTo 59 = .ok (.isub, 1) := by decide +kernel
theorem dX7_tellTo_60 : decode cX7_tellTo 60 = .ok (.iload_n 2, 1) := by decide +kernel
theorem dX7_tellTo_61 : decode cX7_tellTo 61 = .ok (.iconst 4, 1) := by decide +kernel
theorem dX7_tellTo_62 : decode cX7_tellTo 62 = .ok (.iadd, 1) := by decide +kernel
theorem dX7_tellTo_63 : decode cX7_tellTo 63 = .ok (.idiv, 1) := by decide +kernel
theorem dX7_tellTo_64 : decode cX7_tellTo 64 = .ok (.invokestatic 38, 3) := by decide +kernel
theorem dX7_tellTo_67 : decode cX7_tellTo 67 = .ok (.putfield 55, 3) := by decide +kernel
theorem dX7_tellTo_70 : decode cX7_tellTo 70 = .ok (.iconst 0, 1) := by decide +kernel
theorem dX7_tellTo_71 : decode cX7_tellTo 71 = .ok (.istore_n 3, 1) := by decide +kernel
theorem dX7_tellTo_72 : decode cX7_tellTo 72 = .ok (.iload_n 3, 1) := by decide +kernel
theorem dX7_tellTo_73 : decode cX7_tellTo 73 = .ok (.aload_n 1, 1) := by decide +kernel
theorem dX7_tellTo_74 : decode cX7_tellTo 74 = .ok (.getfield 55, 3) := by decide +kernel
theorem dX7_tellTo_77 : decode cX7_tellTo 77 = .ok (.if_icmp .ge 24, 3) := by decide +kernel
theorem dX7_tellTo_80 : decode cX7_tellTo 80 = .ok (.aload_n 0, 1) := by decide +kernel
theorem dX7_tellTo_81 : decode cX7_tellTo 81 = .ok (.aload_n 1, 1) := by decide +kernel
theorem dX7_tellTo_82 : decode cX7_tellTo 82 = .ok (.iload_n 3, 1) := by decide +kernel
theorem dX7_tellTo_83 : decode cX7_tellTo 83 = .ok (.iconst 2, 1) := by decide +kernel
theorem dX7_tellTo_84 : decode cX7_tellTo 84 = .ok (.iload_n 2, 1) := by decide +kernel
theorem dX7_tellTo_85 : decode cX7_tellTo 85 = .ok (.iadd, 1) := by decide +kernel
theorem dX7_tellTo_86 : decode cX7_tellTo 86 = .ok (.iload_n 3, 1) := by decide +kernel
theorem dX7_tellTo_87 : decode cX7_tellTo 87 = .ok (.iload_n 2, 1) := by decide +kernel
theorem dX7_tellTo_88 : decode cX7_tellTo 88 = .ok (.iconst 4, 1) := by decide +kernel
theorem dX7_tellTo_89 : decode cX7_tellTo 89 = .ok (.iadd, 1) := by decide +kernel
theorem dX7_tellTo_90 : decode cX7_tellTo 90 = .ok (.imul, 1) := by decide +kernel
theorem dX7_tellTo_91 : decode cX7_tellTo 91 = .ok (.iadd, 1) := by decide +kernel
theorem dX7_tellTo_92 : decode cX7_tellTo 92 = .ok (.invokevirtual 58, 3) := by decide +kernel
theorem dX7_tellTo_95 : decode cX7_tellTo 95 = .ok (.iinc 3 1, 3) := by decide +kernel
theorem dX7_tellTo_98 : decode cX7_tellTo 98 = .ok (.goto (-26), 3) := by decide +kernel
theorem dX7_tellTo_101 : decode cX7_tellTo 101 = .ok (.return_, 1) := by decide +kernel
theorem dX7_tellRule_0 : decode cX7_tellRule 0 = .ok (.aload_n 1, 1) := by decide +kernel
theorem dX7_tellRule_1 : decode cX7_tellRule 1 = .ok (.getfield 47, 3) := by decide +kernel
theorem dX7_tellRule_4 : decode cX7_tellRule 4 = .ok (.istore 4, 2) := by decide +kernel
theorem dX7_tellRule_6 : decode cX7_tellRule 6 = .ok (.iconst 0, 1) := by decide +kernel
theorem dX7_tellRule_7 : decode cX7_tellRule 7 = .ok (.istore 5, 2) := by decide +kernel
theorem dX7_tellRule_9 : decode cX7_tellRule 9 = .ok (.iload 5, 2) := by decide +kernel
theorem dX7_tellRule_11 : decode cX7_tellRule 11 = .ok (.iconst 4, 1) := by decide +kernel
theorem dX7_tellRule_12 : decode cX7_tellRule 12 = .ok (.if_icmp .ge 43, 3) := by decide +kernel
theorem dX7_tellRule_15 : decode cX7_tellRule 15 = .ok (.aload_n 1, 1) := by decide +kernel
theorem dX7_tellRule_16 : decode cX7_tellRule 16 = .ok (.getfield 62, 3) := by decide +kernel
theorem dX7_tellRule_19 : decode cX7_tellRule 19 = .ok (.iload_n 2, 1) := by decide +kernel
theorem dX7_tellRule_20 : decode cX7_tellRule 20 = .ok (.aaload, 1) := by decide +kernel
theorem dX7_tellRule_21 : decode cX7_tellRule 21 = .ok (.iload 5, 2) := by decide +kernel
theorem dX7_tellRule_23 : decode cX7_tellRule 23 = .ok (.iload 5, 2) := by decide +kernel
theorem dX7_tellRule_25 : decode cX7_tellRule 25 = .ok (.iload 4, 2) := by decide +kernel
theorem dX7_tellRule_27 : decode cX7_tellRule 27 = .ok (.if_icmp .ge 20, 3) := by decide +kernel
theorem dX7_tellRule_30 : decode cX7_tellRule 30 = .ok (.aload_n 0, 1) := by decide +kernel
theorem dX7_tellRule_31 : decode cX7_tellRule 31 = .ok (.getfield 9, 3) := by decide +kernel
theorem dX7_tellRule_34 : decode cX7_tellRule 34 = .ok (.iload_n 3, 1) := by decide +kernel
theorem dX7_tellRule_35 : decode cX7_tellRule 35 = .ok (.iconst 1, 1) := by decide +kernel
theorem dX7_tellRule_36 : decode cX7_tellRule 36 = .ok (.iadd, 1) := by decide +kernel
theorem dX7_tellRule_37 : decode cX7_tellRule 37 = .ok (.iload 5, 2) := by decide +kernel
theorem dX7_tellRule_39 : decode cX7_tellRule 39 = .ok (.iadd, 1) := by decide +kernel
theorem dX7_tellRule_40 : decode cX7_tellRule 40 = .ok (.iaload, 1) := by decide +kernel
theorem dX7_tellRule_41 : decode cX7_tellRule 41 = .ok (.invokestatic 66, 3) := by decide +kernel
theorem dX7_tellRule_44 : decode cX7_tellRule 44 = .ok (.goto 4, 3) := by decide +kernel
theorem dX7_tellRule_47 : decode cX7_tellRule 47 = .ok (.iconst 0, 1) := by decide +kernel
theorem dX7_tellRule_48 : decode cX7_tellRule 48 = .ok (.iastore, 1) := by decide +kernel
theorem dX7_tellRule_49 : decode cX7_tellRule 49 = .ok (.iinc 5 1, 3) := by decide +kernel
theorem dX7_tellRule_52 : decode cX7_tellRule 52 = .ok (.goto (-43), 3) := by decide +kernel
theorem dX7_tellRule_55 : decode cX7_tellRule 55 = .ok (.bipush 10, 2) := by decide +kernel
theorem dX7_tellRule_57 : decode cX7_tellRule 57 = .ok (.aload_n 0, 1) := by decide +kernel
theorem dX7_tellRule_58 : decode cX7_tellRule 58 = .ok (.getfield 9, 3) := by decide +kernel
theorem dX7_tellRule_61 : decode cX7_tellRule 61 = .ok (.iload_n 3, 1) := by decide +kernel
theorem dX7_tellRule_62 : decode cX7_tellRule 62 = .ok (.iload 4, 2) := by decide +kernel
theorem dX7_tellRule_64 : decode cX7_tellRule 64 = .ok (.iadd, 1) := by decide +kernel
theorem dX7_tellRule_65 : decode cX7_tellRule 65 = .ok (.iconst 2, 1) := by decide +kernel
theorem dX7_tellRule_66 : decode cX7_tellRule 66 = .ok (.iadd, 1) := by decide +kernel
theorem dX7_tellRule_67 : decode cX7_tellRule 67 = .ok (.iaload, 1) := by decide +kernel
theorem dX7_tellRule_68 : decode cX7_tellRule 68 = .ok (.bipush 48, 2) := by decide +kernel
theorem dX7_tellRule_70 : decode cX7_tellRule 70 = .ok (.isub, 1) := by decide +kernel
theorem dX7_tellRule_71 : decode cX7_tellRule 71 = .ok (.imul, 1) := by decide +kernel
theorem dX7_tellRule_72 : decode cX7_tellRule 72 = .ok (.aload_n 0, 1) := by decide +kernel
theorem dX7_tellRule_73 : decode cX7_tellRule 73 = .ok (.getfield 9, 3) := by decide +kernel
theorem dX7_tellRule_76 : decode cX7_tellRule 76 = .ok (.iload_n 3, 1) := by decide +kernel
theorem dX7_tellRule_77 : decode cX7_tellRule 77 = .ok (.iload 4, 2) := by decide +kernel
theorem dX7_tellRule_79 : decode cX7_tellRule 79 = .ok (.iadd, 1) := by decide +kernel
theorem dX7_tellRule_80 : decode cX7_tellRule 80 = .ok (.iconst 3, 1) := by decide +kernel
theorem dX7_tellRule_81 : decode cX7_tellRule 81 = .ok (.iadd, 1) := by decide +kernel
theorem dX7_tellRule_82 : decode cX7_tellRule 82 = .ok (.iaload, 1) := by decide +kernel
theorem dX7_tellRule_83 : decode cX7_tellRule 83 = .ok (.iadd, 1) := by decide +kernel
theorem dX7_tellRule_84 : decode cX7_tellRule 84 = .ok (.bipush 48, 2) := by decide +kernel
theorem dX7_tellRule_86 : decode cX7_tellRule 86 = .ok (.isub, 1) := by decide +kernel
theorem dX7_tellRule_87 : decode cX7_tellRule 87 = .ok (.istore 5, 2) := by decide +kernel
theorem dX7_tellRule_89 : decode cX7_tellRule 89 = .ok (.aload_n 1, 1) := by decide +kernel
theorem dX7_tellRule_90 : decode cX7_tellRule 90 = .ok (.getfield 70, 3) := by decide +kernel
theorem dX7_tellRule_93 : decode cX7_tellRule 93 = .ok (.iload_n 2, 1) := by decide +kernel
theorem dX7_tellRule_94 : decode cX7_tellRule 94 = .ok (.aload_n 0, 1) := by decide +kernel
theorem dX7_tellRule_95 : decode cX7_tellRule 95 = .ok (.getfield 9, 3) := by decide +kernel
theorem dX7_tellRule_98 : decode cX7_tellRule 98 = .ok (.iload_n 3, 1) := by decide +kernel
theorem dX7_tellRule_99 : decode cX7_tellRule 99 = .ok (.iload 4, 2) := by decide +kernel
theorem dX7_tellRule_101 : decode cX7_tellRule 101 = .ok (.iadd, 1) := by decide +kernel
theorem dX7_tellRule_102 : decode cX7_tellRule 102 = .ok (.iconst 1, 1) := by decide +kernel
theorem dX7_tellRule_103 : decode cX7_tellRule 103 = .ok (.iadd, 1) := by decide +kernel
theorem dX7_tellRule_104 : decode cX7_tellRule 104 = .ok (.iaload, 1) := by decide +kernel
theorem dX7_tellRule_105 : decode cX7_tellRule 105 = .ok (.bipush 45, 2) := by decide +kernel
theorem dX7_tellRule_107 : decode cX7_tellRule 107 = .ok (.if_icmp .ne 9, 3) := by decide +kernel
theorem dX7_tellRule_110 : decode cX7_tellRule 110 = .ok (.iload 5, 2) := by decide +kernel
theorem dX7_tellRule_112 : decode cX7_tellRule 112 = .ok (.ineg, 1) := by decide +kernel
theorem dX7_tellRule_113 : decode cX7_tellRule 113 = .ok (.goto 5, 3) := by decide +kernel
theorem dX7_tellRule_116 : decode cX7_tellRule 116 = .ok (.iload 5, 2) := by decide +kernel
theorem dX7_tellRule_118 : decode cX7_tellRule 118 = .ok (.iastore, 1) := by decide +kernel
theorem dX7_tellRule_119 : decode cX7_tellRule 119 = .ok (.return_, 1) := by decide +kernel
theorem dX7_weightOf_0 : decode cX7_weightOf 0 = .ok (.iload_n 0, 1) := by decide +kernel
theorem dX7_weightOf_1 : decode cX7_weightOf 1 = .ok (.invokestatic 31, 3) := by decide +kernel
theorem dX7_weightOf_4 : decode cX7_weightOf 4 = .ok (.ifCond .eq 10, 3) := by decide +kernel
theorem dX7_weightOf_7 : decode cX7_weightOf 7 = .ok (.iload_n 0, 1) := by decide +kernel
theorem dX7_weightOf_8 : decode cX7_weightOf 8 = .ok (.bipush 48, 2) := by decide +kernel
theorem dX7_weightOf_10 : decode cX7_weightOf 10 = .ok (.isub, 1) := by decide +kernel
theorem dX7_weightOf_11 : decode cX7_weightOf 11 = .ok (.goto 7, 3) := by decide +kernel
theorem dX7_weightOf_14 : decode cX7_weightOf 14 = .ok (.bipush 96, 2) := by decide +kernel
theorem dX7_weightOf_16 : decode cX7_weightOf 16 = .ok (.iload_n 0, 1) := by decide +kernel
theorem dX7_weightOf_17 : decode cX7_weightOf 17 = .ok (.isub, 1) := by decide +kernel
theorem dX7_weightOf_18 : decode cX7_weightOf 18 = .ok (.ireturn, 1) := by decide +kernel
theorem dX8_init_0 : decode cX8_init 0 = .ok (.aload_n 0, 1) := by decide +kernel
theorem dX8_init_1 : decode cX8_init 1 = .ok (.invokespecial 3, 3) := by decide +kernel
theorem dX8_init_4 : decode cX8_init 4 = .ok (.aload_n 0, 1) := by decide +kernel
theorem dX8_init_5 : decode cX8_init 5 = .ok (.bipush 8, 2) := by decide +kernel
theorem dX8_init_7 : decode cX8_init 7 = .ok (.newarray .int, 2) := by decide +kernel
theorem dX8_init_9 : decode cX8_init 9 = .ok (.putfield 9, 3) := by decide +kernel
theorem dX8_init_12 : decode cX8_init 12 = .ok (.aload_n 0, 1) := by decide +kernel
theorem dX8_init_13 : decode cX8_init 13 = .ok (.bipush 8, 2) := by decide +kernel
theorem dX8_init_15 : decode cX8_init 15 = .ok (.newarray .int, 2) := by decide +kernel
theorem dX8_init_17 : decode cX8_init 17 = .ok (.putfield 15, 3) := by decide +kernel
theorem dX8_init_20 : decode cX8_init 20 = .ok (.return_, 1) := by decide +kernel
theorem dX8_countWhy_0 : decode cX8_countWhy 0 = .ok (.aload_n 0, 1) := by decide +kernel
theorem dX8_countWhy_1 : decode cX8_countWhy 1 = .ok (.aload_n 1, 1) := by decide +kernel
theorem dX8_countWhy_2 : decode cX8_countWhy 2 = .ok (.aload_n 1, 1) := by decide +kernel
theorem dX8_countWhy_3 : decode cX8_countWhy 3 = .ok (.getfield 18, 3) := by decide +kernel
theorem dX8_countWhy_6 : decode cX8_countWhy 6 = .ok (.getfield 24, 3) := by decide +kernel
theorem dX8_countWhy_9 : decode cX8_countWhy 9 = .ok (.iload_n 2, 1) := by decide +kernel
theorem dX8_countWhy_10 : decode cX8_countWhy 10 = .ok (.iaload, 1) := by decide +kernel
theorem dX8_countWhy_11 : decode cX8_countWhy 11 = .ok (.iload_n 2, 1) := by decide +kernel
theorem dX8_countWhy_12 : decode cX8_countWhy 12 = .ok (.aload_n 1, 1) := by decide +kernel
theorem dX8_countWhy_13 : decode cX8_countWhy 13 = .ok (.getfield 18, 3) := by decide +kernel
theorem dX8_countWhy_16 : decode cX8_countWhy 16 = .ok (.getfield 29, 3) := by decide +kernel
theorem dX8_countWhy_19 : decode cX8_countWhy 19 = .ok (.iload_n 2, 1) := by decide +kernel
theorem dX8_countWhy_20 : decode cX8_countWhy 20 = .ok (.iaload, 1) := by decide +kernel
theorem dX8_countWhy_21 : decode cX8_countWhy 21 = .ok (.invokevirtual 32, 3) := by decide +kernel
theorem dX8_countWhy_24 : decode cX8_countWhy 24 = .ok (.iconst 0, 1) := by decide +kernel
theorem dX8_countWhy_25 : decode cX8_countWhy 25 = .ok (.istore_n 3, 1) := by decide +kernel
theorem dX8_countWhy_26 : decode cX8_countWhy 26 = .ok (.iconst 0, 1) := by decide +kernel
theorem dX8_countWhy_27 : decode cX8_countWhy 27 = .ok (.istore 4, 2) := by decide +kernel
theorem dX8_countWhy_29 : decode cX8_countWhy 29 = .ok (.iload 4, 2) := by decide +kernel
theorem dX8_countWhy_31 : decode cX8_countWhy 31 = .ok (.bipush 8, 2) := by decide +kernel
theorem dX8_countWhy_33 : decode cX8_countWhy 33 = .ok (.if_icmp .ge 23, 3) := by decide +kernel
theorem dX8_countWhy_36 : decode cX8_countWhy 36 = .ok (.aload_n 0, 1) := by decide +kernel
theorem dX8_countWhy_37 : decode cX8_countWhy 37 = .ok (.getfield 15, 3) := by decide +kernel
theorem dX8_countWhy_40 : decode cX8_countWhy 40 = .ok (.iload 4, 2) := by decide +kernel
theorem dX8_countWhy_42 : decode cX8_countWhy 42 = .ok (.iaload, 1) := by decide +kernel
theorem dX8_countWhy_43 : decode cX8_countWhy 43 = .ok (.iconst (-1), 1) := by decide +kernel
theorem dX8_countWhy_44 : decode cX8_countWhy 44 = .ok (.if_icmp .eq 6, 3) := by decide +kernel
theorem dX8_countWhy_47 : decode cX8_countWhy 47 = .ok (.iinc 3 1, 3) := by decide +kernel
theorem dX8_countWhy_50 : decode cX8_countWhy 50 = .ok (.iinc 4 1, 3) := by decide +kernel
theorem dX8_countWhy_53 : decode cX8_countWhy 53 = .ok (.goto (-24), 3) := by decide +kernel
theorem dX8_countWhy_56 : decode cX8_countWhy 56 = .ok (.iload_n 3, 1) := by decide +kernel
theorem dX8_countWhy_57 : decode cX8_countWhy 57 = .ok (.ireturn, 1) := by decide +kernel
theorem dX8_learnt_0 : decode cX8_learnt 0 = .ok (.iconst 0, 1) := by decide +kernel
theorem dX8_learnt_1 : decode cX8_learnt 1 = .ok (.istore_n 2, 1) := by decide +kernel
theorem dX8_learnt_2 : decode cX8_learnt 2 = .ok (.iload_n 2, 1) := by decide +kernel
theorem dX8_learnt_3 : decode cX8_learnt 3 = .ok (.bipush 8, 2) := by decide +kernel
theorem dX8_learnt_5 : decode cX8_learnt 5 = .ok (.if_icmp .ge 16, 3) := by decide +kernel
theorem dX8_learnt_8 : decode cX8_learnt 8 = .ok (.aload_n 0, 1) := by decide +kernel
theorem dX8_learnt_9 : decode cX8_learnt 9 = .ok (.getfield 9, 3) := by decide +kernel
theorem dX8_learnt_12 : decode cX8_learnt 12 = .ok (.iload_n 2, 1) := by decide +kernel
theorem dX8_learnt_13 : decode cX8_learnt 13 = .ok (.iconst (-1), 1) := by decide +kernel
theorem dX8_learnt_14 : decode cX8_learnt 14 = .ok (.iastore, 1) := by decide +kernel
theorem dX8_learnt_15 : decode cX8_learnt 15 = .ok (.iinc 2 1, 3) := by decide +kernel
theorem dX8_learnt_18 : decode cX8_learnt 18 = .ok (.goto (-16), 3) := by decide +kernel
theorem dX8_learnt_21 : decode cX8_learnt 21 = .ok (.aload_n 0, 1) := by decide +kernel
theorem dX8_learnt_22 : decode cX8_learnt 22 = .ok (.aload_n 1, 1) := by decide +kernel
theorem dX8_learnt_23 : decode cX8_learnt 23 = .ok (.aload_n 1, 1) := by decide +kernel
theorem dX8_learnt_24 : decode cX8_learnt 24 = .ok (.invokevirtual 36, 3) := by decide +kernel
theorem dX8_learnt_27 : decode cX8_learnt 27 = .ok (.aload_n 1, 1) := by decide +kernel
theorem dX8_learnt_28 : decode cX8_learnt 28 = .ok (.getfield 18, 3) := by decide +kernel
theorem dX8_learnt_31 : decode cX8_learnt 31 = .ok (.getfield 40, 3) := by decide +kernel
theorem dX8_learnt_34 : decode cX8_learnt 34 = .ok (.bipush (-9), 2) := by decide +kernel
theorem dX8_learnt_36 : decode cX8_learnt 36 = .ok (.invokevirtual 32, 3) := by decide +kernel
theorem dX8_learnt_39 : decode cX8_learnt 39 = .ok (.aload_n 0, 1) := by decide +kernel
theorem dX8_learnt_40 : decode cX8_learnt 40 = .ok (.aload_n 1, 1) := by decide +kernel
theorem dX8_learnt_41 : decode cX8_learnt 41 = .ok (.getfield 18, 3) := by decide +kernel
theorem dX8_learnt_44 : decode cX8_learnt 44 = .ok (.invokevirtual 44, 3) := by decide +kernel
theorem dX8_learnt_47 : decode cX8_learnt 47 = .ok (.iconst 0, 1) := by decide +kernel
theorem dX8_learnt_48 : decode cX8_learnt 48 = .ok (.istore_n 2, 1) := by decide +kernel
theorem dX8_learnt_49 : decode cX8_learnt 49 = .ok (.iload_n 2, 1) := by decide +kernel
theorem dX8_learnt_50 : decode cX8_learnt 50 = .ok (.bipush 36, 2) := by decide +kernel
theorem dX8_learnt_52 : decode cX8_learnt 52 = .ok (.if_icmp .ge 20, 3) := by decide +kernel
theorem dX8_learnt_55 : decode cX8_learnt 55 = .ok (.aload_n 0, 1) := by decide +kernel
theorem dX8_learnt_56 : decode cX8_learnt 56 = .ok (.aload_n 1, 1) := by decide +kernel
theorem dX8_learnt_57 : decode cX8_learnt 57 = .ok (.invokevirtual 48, 3) := by decide +kernel
theorem dX8_learnt_60 : decode cX8_learnt 60 = .ok (.ifCond .ne 6, 3) := by decide +kernel
theorem dX8_learnt_63 : decode cX8_learnt 63 = .ok (.goto 9, 3) := by decide +kernel
theorem dX8_learnt_66 : decode cX8_learnt 66 = .ok (.iinc 2 1, 3) := by decide +kernel
theorem dX8_learnt_69 : decode cX8_learnt 69 = .ok (.goto (-20), 3) := by decide +kernel
theorem dX8_learnt_72 : decode cX8_learnt 72 = .ok (.aload_n 0, 1) := by decide +kernel
theorem dX8_learnt_73 : decode cX8_learnt 73 = .ok (.bipush 36, 2) := by decide +kernel
theorem dX8_learnt_75 : decode cX8_learnt 75 = .ok (.invokevirtual 52, 3) := by decide +kernel
theorem dX8_learnt_78 : decode cX8_learnt 78 = .ok (.istore_n 2, 1) := by decide +kernel
theorem dX8_learnt_79 : decode cX8_learnt 79 = .ok (.iload_n 2, 1) := by decide +kernel
theorem dX8_learnt_80 : decode cX8_learnt 80 = .ok (.iconst (-1), 1) := by decide +kernel
theorem dX8_learnt_81 : decode cX8_learnt 81 = .ok (.if_icmp .ne 10, 3) := by decide +kernel
theorem dX8_learnt_84 : decode cX8_learnt 84 = .ok (.aload_n 1, 1) := by decide +kernel
theorem dX8_learnt_85 : decode cX8_learnt 85 = .ok (.iconst 1, 1) := by decide +kernel
theorem dX8_learnt_86 : decode cX8_learnt 86 = .ok (.putfield 56, 3) := by decide +kernel
theorem dX8_learnt_89 : decode cX8_learnt 89 = .ok (.iconst 0, 1) := by decide +kernel
theorem dX8_learnt_90 : decode cX8_learnt 90 = .ok (.ireturn, 1) := by decide +kernel
theorem dX8_learnt_91 : decode cX8_learnt 91 = .ok (.aload_n 0, 1) := by decide +kernel
theorem dX8_learnt_92 : decode cX8_learnt 92 = .ok (.iload_n 2, 1) := by decide +kernel
theorem dX8_learnt_93 : decode cX8_learnt 93 = .ok (.invokevirtual 52, 3) := by decide +kernel
theorem dX8_learnt_96 : decode cX8_learnt 96 = .ok (.istore_n 3, 1) := by decide +kernel
theorem dX8_learnt_97 : decode cX8_learnt 97 = .ok (.iload_n 3, 1) := by decide +kernel
theorem dX8_learnt_98 : decode cX8_learnt 98 = .ok (.iconst (-1), 1) := by decide +kernel
theorem dX8_learnt_99 : decode cX8_learnt 99 = .ok (.if_icmp .ne 7, 3) := by decide +kernel
theorem dX8_learnt_102 : decode cX8_learnt 102 = .ok (.iconst 0, 1) := by decide +kernel
theorem dX8_learnt_103 : decode cX8_learnt 103 = .ok (.goto 12, 3) := by decide +kernel
theorem dX8_learnt_106 : decode cX8_learnt 106 = .ok (.aload_n 1, 1) := by decide +kernel
theorem dX8_learnt_107 : decode cX8_learnt 107 = .ok (.getfield 18, 3) := by decide +kernel
theorem dX8_learnt_110 : decode cX8_learnt 110 = .ok (.getfield 60, 3) := by decide +kernel
theorem dX8_learnt_113 : decode cX8_learnt 113 = .ok (.iload_n 3, 1) := by decide +kernel
theorem dX8_learnt_114 : decode cX8_learnt 114 = .ok (.iaload, 1) := by decide +kernel
theorem dX8_learnt_115 : decode cX8_learnt 115 = .ok (.istore 4, 2) := by decide +kernel
theorem dX8_learnt_117 : decode cX8_learnt 117 = .ok (.aload_n 0, 1) := by decide +kernel
theorem dX8_learnt_118 : decode cX8_learnt 118 = .ok (.aload_n 1, 1) := by decide +kernel
theorem dX8_learnt_119 : decode cX8_learnt 119 = .ok (.invokevirtual 63, 3) := by decide +kernel
theorem dX8_learnt_122 : decode cX8_learnt 122 = .ok (.istore 5, 2) := by decide +kernel
theorem dX8_learnt_124 : decode cX8_learnt 124 = .ok (.aload_n 1, 1) := by decide +kernel
theorem dX8_learnt_125 : decode cX8_learnt 125 = .ok (.getfield 18, 3) := by decide +kernel
theorem dX8_learnt_128 : decode cX8_learnt 128 = .ok (.iload 4, 2) := by decide +kernel
theorem dX8_learnt_130 : decode cX8_learnt 130 = .ok (.invokevirtual 67, 3) := by decide +kernel
theorem dX8_learnt_133 : decode cX8_learnt 133 = .ok (.aload_n 1, 1) := by decide +kernel
theorem dX8_learnt_134 : decode cX8_learnt 134 = .ok (.invokevirtual 71, 3) := by decide +kernel
theorem dX8_learnt_137 : decode cX8_learnt 137 = .ok (.iload 5, 2) := by decide +kernel
theorem dX8_learnt_139 : decode cX8_learnt 139 = .ok (.ireturn, 1) := by decide +kernel
theorem dX8_traceLast_0 : decode cX8_traceLast 0 = .ok (.aload_n 1, 1) := by decide +kernel
theorem dX8_traceLast_1 : decode cX8_traceLast 1 = .ok (.getfield 18, 3) := by decide +kernel
theorem dX8_traceLast_4 : decode cX8_traceLast 4 = .ok (.astore_n 2, 1) := by decide +kernel
theorem dX8_traceLast_5 : decode cX8_traceLast 5 = .ok (.aload_n 0, 1) := by decide +kernel
theorem dX8_traceLast_6 : decode cX8_traceLast 6 = .ok (.bipush 36, 2) := by decide +kernel
theorem dX8_traceLast_8 : decode cX8_traceLast 8 = .ok (.invokevirtual 52, 3) := by decide +kernel
theorem dX8_traceLast_11 : decode cX8_traceLast 11 = .ok (.istore_n 3, 1) := by decide +kernel
theorem dX8_traceLast_12 : decode cX8_traceLast 12 = .ok (.aload_n 0, 1) := by decide +kernel
theorem dX8_traceLast_13 : decode cX8_traceLast 13 = .ok (.iload_n 3, 1) := by decide +kernel
theorem dX8_traceLast_14 : decode cX8_traceLast 14 = .ok (.invokevirtual 52, 3) := by decide +kernel
theorem dX8_traceLast_17 : decode cX8_traceLast 17 = .ok (.istore 4, 2) := by decide +kernel
theorem dX8_traceLast_19 : decode cX8_traceLast 19 = .ok (.iload 4, 2) := by decide +kernel
theorem dX8_traceLast_21 : decode cX8_traceLast 21 = .ok (.iconst (-1), 1) := by decide +kernel
theorem dX8_traceLast_22 : decode cX8_traceLast 22 = .ok (.if_icmp .eq 19, 3) := by decide +kernel
theorem dX8_traceLast_25 : decode cX8_traceLast 25 = .ok (.aload_n 2, 1) := by decide +kernel
theorem dX8_traceLast_26 : decode cX8_traceLast 26 = .ok (.getfield 60, 3) := by decide +kernel
theorem dX8_traceLast_29 : decode cX8_traceLast 29 = .ok (.iload 4, 2) := by decide +kernel
theorem dX8_traceLast_31 : decode cX8_traceLast 31 = .ok (.iaload, 1) := by decide +kernel
theorem dX8_traceLast_32 : decode cX8_traceLast 32 = .ok (.aload_n 2, 1) := by decide +kernel
theorem dX8_traceLast_33 : decode cX8_traceLast 33 = .ok (.getfield 60, 3) := by decide +kernel
theorem dX8_traceLast_36 : decode cX8_traceLast 36 = .ok (.iload_n 3, 1) := by decide +kernel
theorem dX8_traceLast_37 : decode cX8_traceLast 37 = .ok (.iaload, 1) := by decide +kernel
theorem dX8_traceLast_38 : decode cX8_traceLast 38 = .ok (.if_icmp .eq 5, 3) := by decide +kernel
theorem dX8_traceLast_41 : decode cX8_traceLast 41 = .ok (.iconst 0, 1) := by decide +kernel
theorem dX8_traceLast_42 : decode cX8_traceLast 42 = .ok (.ireturn, 1) := by decide +kernel
theorem dX8_traceLast_43 : decode cX8_traceLast 43 = .ok (.aload_n 0, 1) := by decide +kernel
theorem dX8_traceLast_44 : decode cX8_traceLast 44 = .ok (.getfield 9, 3) := by decide +kernel
theorem dX8_traceLast_47 : decode cX8_traceLast 47 = .ok (.aload_n 2, 1) := by decide +kernel
theorem dX8_traceLast_48 : decode cX8_traceLast 48 = .ok (.getfield 29, 3) := by decide +kernel
theorem dX8_traceLast_51 : decode cX8_traceLast 51 = .ok (.iload_n 3, 1) := by decide +kernel
theorem dX8_traceLast_52 : decode cX8_traceLast 52 = .ok (.iaload, 1) := by decide +kernel
theorem dX8_traceLast_53 : decode cX8_traceLast 53 = .ok (.invokestatic 74, 3) := by decide +kernel
theorem dX8_traceLast_56 : decode cX8_traceLast 56 = .ok (.iconst (-1), 1) := by decide +kernel
theorem dX8_traceLast_57 : decode cX8_traceLast 57 = .ok (.iastore, 1) := by decide +kernel
theorem dX8_traceLast_58 : decode cX8_traceLast 58 = .ok (.aload_n 0, 1) := by decide +kernel
theorem dX8_traceLast_59 : decode cX8_traceLast 59 = .ok (.aload_n 1, 1) := by decide +kernel
theorem dX8_traceLast_60 : decode cX8_traceLast 60 = .ok (.aload_n 2, 1) := by decide +kernel
theorem dX8_traceLast_61 : decode cX8_traceLast 61 = .ok (.getfield 24, 3) := by decide +kernel
theorem dX8_traceLast_64 : decode cX8_traceLast 64 = .ok (.iload_n 3, 1) := by decide +kernel
theorem dX8_traceLast_65 : decode cX8_traceLast 65 = .ok (.iaload, 1) := by decide +kernel
theorem dX8_traceLast_66 : decode cX8_traceLast 66 = .ok (.iload_n 3, 1) := by decide +kernel
theorem dX8_traceLast_67 : decode cX8_traceLast 67 = .ok (.aload_n 2, 1) := by decide +kernel
theorem dX8_traceLast_68 : decode cX8_traceLast 68 = .ok (.getfield 29, 3) := by decide +kernel
theorem dX8_traceLast_71 : decode cX8_traceLast 71 = .ok (.iload_n 3, 1) := by decide +kernel
theorem dX8_traceLast_72 : decode cX8_traceLast 72 = .ok (.iaload, 1) := by decide +kernel
theorem dX8_traceLast_73 : decode cX8_traceLast 73 = .ok (.invokevirtual 32, 3) := by decide +kernel
theorem dX8_traceLast_76 : decode cX8_traceLast 76 = .ok (.aload_n 0, 1) := by decide +kernel
theorem dX8_traceLast_77 : decode cX8_traceLast 77 = .ok (.aload_n 2, 1) := by decide +kernel
theorem dX8_traceLast_78 : decode cX8_traceLast 78 = .ok (.invokevirtual 44, 3) := by decide +kernel
theorem dX8_traceLast_81 : decode cX8_traceLast 81 = .ok (.iconst 1, 1) := by decide +kernel
theorem dX8_traceLast_82 : decode cX8_traceLast 82 = .ok (.ireturn, 1) := by decide +kernel
theorem dX8_greatestBelow_0 : decode cX8_greatestBelow 0 = .ok (.iconst (-1), 1) := by decide +kernel
theorem dX8_greatestBelow_1 : decode cX8_greatestBelow 1 = .ok (.istore_n 2, 1) := by decide +kernel
theorem dX8_greatestBelow_2 : decode cX8_greatestBelow 2 = .ok (.iconst 0, 1) := by decide +kernel
theorem dX8_greatestBelow_3 : decode cX8_greatestBelow 3 = .ok (.istore_n 3, 1) := by decide +kernel
theorem dX8_greatestBelow_4 : decode cX8_greatestBelow 4 = .ok (.iload_n 3, 1) := by decide +kernel
theorem dX8_greatestBelow_5 : decode cX8_greatestBelow 5 = .ok (.bipush 8, 2) := by decide +kernel
theorem dX8_greatestBelow_7 : decode cX8_greatestBelow 7 = .ok (.if_icmp .ge 36, 3) := by decide +kernel
theorem dX8_greatestBelow_10 : decode cX8_greatestBelow 10 = .ok (.aload_n 0, 1) := by decide +kernel
theorem dX8_greatestBelow_11 : decode cX8_greatestBelow 11 = .ok (.getfield 9, 3) := by decide +kernel
theorem dX8_greatestBelow_14 : decode cX8_greatestBelow 14 = .ok (.iload_n 3, 1) := by decide +kernel
theorem dX8_greatestBelow_15 : decode cX8_greatestBelow 15 = .ok (.iaload, 1) := by decide +kernel
theorem dX8_greatestBelow_16 : decode cX8_greatestBelow 16 = .ok (.iload_n 1, 1) := by decide +kernel
theorem dX8_greatestBelow_17 : decode cX8_greatestBelow 17 = .ok (.if_icmp .ge 20, 3) := by decide +kernel
theorem dX8_greatestBelow_20 : decode cX8_greatestBelow 20 = .ok (.aload_n 0, 1) := by decide +kernel
theorem dX8_greatestBelow_21 : decode cX8_greatestBelow 21 = .ok (.getfield 9, 3) := by decide +kernel
theorem dX8_greatestBelow_24 : decode cX8_greatestBelow 24 = .ok (.iload_n 3, 1) := by decide +kernel
theorem dX8_greatestBelow_25 : decode cX8_greatestBelow 25 = .ok (.iaload, 1) := by decide +kernel
theorem dX8_greatestBelow_26 : decode cX8_greatestBelow 26 = .ok (.iload_n 2, 1) := by decide +kernel
theorem dX8_greatestBelow_27 : decode cX8_greatestBelow 27 = .ok (.if_icmp .le 10, 3) := by decide +kernel
theorem dX8_greatestBelow_30 : decode cX8_greatestBelow 30 = .ok (.aload_n 0, 1) := by decide +kernel
theorem dX8_greatestBelow_31 : decode cX8_greatestBelow 31 = .ok (.getfield 9, 3) := by decide +kernel
theorem dX8_greatestBelow_34 : decode cX8_greatestBelow 34 = .ok (.iload_n 3, 1) := by decide +kernel
theorem dX8_greatestBelow_35 : decode cX8_greatestBelow 35 = .ok (.iaload, 1) := by decide +kernel
theorem dX8_greatestBelow_36 : decode cX8_greatestBelow 36 = .ok (.istore_n 2, 1) := by decide +kernel
theorem dX8_greatestBelow_37 : decode cX8_greatestBelow 37 = .ok (.iinc 3 1, 3) := by decide +kernel
theorem dX8_greatestBelow_40 : decode cX8_greatestBelow 40 = .ok (.goto (-36), 3) := by decide +kernel
theorem dX8_greatestBelow_43 : decode cX8_greatestBelow 43 = .ok (.iload_n 2, 1) := by decide +kernel
theorem dX8_greatestBelow_44 : decode cX8_greatestBelow 44 = .ok (.ireturn, 1) := by decide +kernel
theorem dX8_takeWhyIn_0 : decode cX8_takeWhyIn 0 = .ok (.iconst 0, 1) := by decide +kernel
theorem dX8_takeWhyIn_1 : decode cX8_takeWhyIn 1 = .ok (.istore_n 2, 1) := by decide +kernel
theorem dX8_takeWhyIn_2 : decode cX8_takeWhyIn 2 = .ok (.iload_n 2, 1) := by decide +kernel
theorem dX8_takeWhyIn_3 : decode cX8_takeWhyIn 3 = .ok (.bipush 8, 2) := by decide +kernel
theorem dX8_takeWhyIn_5 : decode cX8_takeWhyIn 5 = .ok (.if_icmp .ge 46, 3) := by decide +kernel
theorem dX8_takeWhyIn_8 : decode cX8_takeWhyIn 8 = .ok (.aload_n 0, 1) := by decide +kernel
theorem dX8_takeWhyIn_9 : decode cX8_takeWhyIn 9 = .ok (.getfield 15, 3) := by decide +kernel
theorem dX8_takeWhyIn_12 : decode cX8_takeWhyIn 12 = .ok (.iload_n 2, 1) := by decide +kernel
theorem dX8_takeWhyIn_13 : decode cX8_takeWhyIn 13 = .ok (.iaload, 1) := by decide +kernel
theorem dX8_takeWhyIn_14 : decode cX8_takeWhyIn 14 = .ok (.istore_n 3, 1) := by decide +kernel
theorem dX8_takeWhyIn_15 : decode cX8_takeWhyIn 15 = .ok (.iload_n 3, 1) := by decide +kernel
theorem dX8_takeWhyIn_16 : decode cX8_takeWhyIn 16 = .ok (.iconst (-1), 1) := by decide +kernel
theorem dX8_takeWhyIn_17 : decode cX8_takeWhyIn 17 = .ok (.if_icmp .eq 28, 3) := by decide +kernel
theorem dX8_takeWhyIn_20 : decode cX8_takeWhyIn 20 = .ok (.aload_n 1, 1) := by decide +kernel
theorem dX8_takeWhyIn_21 : decode cX8_takeWhyIn 21 = .ok (.getfield 60, 3) := by decide +kernel
theorem dX8_takeWhyIn_24 : decode cX8_takeWhyIn 24 = .ok (.iload_n 3, 1) := by decide +kernel
theorem dX8_takeWhyIn_25 : decode cX8_takeWhyIn 25 = .ok (.iaload, 1) := by decide +kernel
theorem dX8_takeWhyIn_26 : decode cX8_takeWhyIn 26 = .ok (.ifCond .le 19, 3) := by decide +kernel
theorem dX8_takeWhyIn_29 : decode cX8_takeWhyIn 29 = .ok (.aload_n 0, 1) := by decide +kernel
theorem dX8_takeWhyIn_30 : decode cX8_takeWhyIn 30 = .ok (.getfield 9, 3) := by decide +kernel
theorem dX8_takeWhyIn_33 : decode cX8_takeWhyIn 33 = .ok (.iload_n 2, 1) := by decide +kernel
theorem dX8_takeWhyIn_34 : decode cX8_takeWhyIn 34 = .ok (.aload_n 0, 1) := by decide +kernel
theorem dX8_takeWhyIn_35 : decode cX8_takeWhyIn 35 = .ok (.getfield 9, 3) := by decide +kernel
theorem dX8_takeWhyIn_38 : decode cX8_takeWhyIn 38 = .ok (.iload_n 2, 1) := by decide +kernel
theorem dX8_takeWhyIn_39 : decode cX8_takeWhyIn 39 = .ok (.iaload, 1) := by decide +kernel
theorem dX8_takeWhyIn_40 : decode cX8_takeWhyIn 40 = .ok (.iload_n 3, 1) := by decide +kernel
theorem dX8_takeWhyIn_41 : decode cX8_takeWhyIn 41 = .ok (.invokestatic 77, 3) := by decide +kernel
theorem dX8_takeWhyIn_44 : decode cX8_takeWhyIn 44 = .ok (.iastore, 1) := by decide +kernel
theorem dX8_takeWhyIn_45 : decode cX8_takeWhyIn 45 = .ok (.iinc 2 1, 3) := by decide +kernel
theorem dX8_takeWhyIn_48 : decode cX8_takeWhyIn 48 = .ok (.goto (-46), 3) := by decide +kernel
theorem dX8_takeWhyIn_51 : decode cX8_takeWhyIn 51 = .ok (.return_, 1) := by decide +kernel
theorem dX8_lookUpWhy_0 : decode cX8_lookUpWhy 0 = .ok (.iconst 0, 1) := by decide +kernel
theorem dX8_lookUpWhy_1 : decode cX8_lookUpWhy 1 = .ok (.istore 5, 2) := by decide +kernel
theorem dX8_lookUpWhy_3 : decode cX8_lookUpWhy 3 = .ok (.iload 5, 2) := by decide +kernel
theorem dX8_lookUpWhy_5 : decode cX8_lookUpWhy 5 = .ok (.bipush 8, 2) := by decide +kernel
theorem dX8_lookUpWhy_7 : decode cX8_lookUpWhy 7 = .ok (.if_icmp .ge 17, 3) := by decide +kernel
theorem dX8_lookUpWhy_10 : decode cX8_lookUpWhy 10 = .ok (.aload_n 0, 1) := by decide +kernel
theorem dX8_lookUpWhy_11 : decode cX8_lookUpWhy 11 = .ok (.getfield 15, 3) := by decide +kernel
theorem dX8_lookUpWhy_14 : decode cX8_lookUpWhy 14 = .ok (.iload 5, 2) := by decide +kernel
theorem dX8_lookUpWhy_16 : decode cX8_lookUpWhy 16 = .ok (.iconst (-1), 1) := by decide +kernel
theorem dX8_lookUpWhy_17 : decode cX8_lookUpWhy 17 = .ok (.iastore, 1) := by decide +kernel
theorem dX8_lookUpWhy_18 : decode cX8_lookUpWhy 18 = .ok (.iinc 5 1, 3) := by decide +kernel
theorem dX8_lookUpWhy_21 : decode cX8_lookUpWhy 21 = .ok (.goto (-18), 3) := by decide +kernel
theorem dX8_lookUpWhy_24 : decode cX8_lookUpWhy 24 = .ok (.aload_n 1, 1) := by decide +kernel
theorem dX8_lookUpWhy_25 : decode cX8_lookUpWhy 25 = .ok (.getfield 83, 3) := by decide +kernel
theorem dX8_lookUpWhy_28 : decode cX8_lookUpWhy 28 = .ok (.iload_n 2, 1) := by decide +kernel
theorem dX8_lookUpWhy_29 : decode cX8_lookUpWhy 29 = .ok (.invokevirtual 87, 3) := by decide +kernel
theorem dX8_lookUpWhy_32 : decode cX8_lookUpWhy 32 = .ok (.ifCond .eq 15, 3) := by decide +kernel
theorem dX8_lookUpWhy_35 : decode cX8_lookUpWhy 35 = .ok (.aload_n 0, 1) := by decide +kernel
theorem dX8_lookUpWhy_36 : decode cX8_lookUpWhy 36 = .ok (.aload_n 1, 1) := by decide +kernel
theorem dX8_lookUpWhy_37 : decode cX8_lookUpWhy 37 = .ok (.iload_n 2, 1) := by decide +kernel
theorem dX8_lookUpWhy_38 : decode cX8_lookUpWhy 38 = .ok (.iload_n 3, 1) := by decide +kernel
theorem dX8_lookUpWhy_39 : decode cX8_lookUpWhy 39 = .ok (.iload 4, 2) := by decide +kernel
theorem dX8_lookUpWhy_41 : decode cX8_lookUpWhy 41 = .ok (.invokevirtual 93, 3) := by decide +kernel
theorem dX8_lookUpWhy_44 : decode cX8_lookUpWhy 44 = .ok (.goto 29, 3) := by decide +kernel
theorem dX8_lookUpWhy_47 : decode cX8_lookUpWhy 47 = .ok (.aload_n 1, 1) := by decide +kernel
theorem dX8_lookUpWhy_48 : decode cX8_lookUpWhy 48 = .ok (.getfield 96, 3) := by decide +kernel
theorem dX8_lookUpWhy_51 : decode cX8_lookUpWhy 51 = .ok (.iload_n 2, 1) := by decide +kernel
theorem dX8_lookUpWhy_52 : decode cX8_lookUpWhy 52 = .ok (.bipush 10, 2) := by decide +kernel
theorem dX8_lookUpWhy_54 : decode cX8_lookUpWhy 54 = .ok (.isub, 1) := by decide +kernel
theorem dX8_lookUpWhy_55 : decode cX8_lookUpWhy 55 = .ok (.invokevirtual 100, 3) := by decide +kernel
theorem dX8_lookUpWhy_58 : decode cX8_lookUpWhy 58 = .ok (.ifCond .eq 15, 3) := by decide +kernel
theorem dX8_lookUpWhy_61 : decode cX8_lookUpWhy 61 = .ok (.aload_n 0, 1) := by decide +kernel
theorem dX8_lookUpWhy_62 : decode cX8_lookUpWhy 62 = .ok (.aload_n 1, 1) := by decide +kernel
theorem dX8_lookUpWhy_63 : decode cX8_lookUpWhy 63 = .ok (.iload_n 2, 1) := by decide +kernel
theorem dX8_lookUpWhy_64 : decode cX8_lookUpWhy 64 = .ok (.bipush 10, 2) := by decide +kernel
theorem dX8_lookUpWhy_66 : decode cX8_lookUpWhy 66 = .ok (.isub, 1) := by decide +kernel
theorem dX8_lookUpWhy_67 : decode cX8_lookUpWhy 67 = .ok (.iload_n 3, 1) := by decide +kernel
theorem dX8_lookUpWhy_68 : decode cX8_lookUpWhy 68 = .ok (.iload 4, 2) := by decide +kernel
theorem dX8_lookUpWhy_70 : decode cX8_lookUpWhy 70 = .ok (.invokevirtual 105, 3) := by decide +kernel
theorem dX8_lookUpWhy_73 : decode cX8_lookUpWhy 73 = .ok (.return_, 1) := by decide +kernel
theorem dX8_lookUpByRule_0 : decode cX8_lookUpByRule 0 = .ok (.iload 4, 2) := by decide +kernel
theorem dX8_lookUpByRule_2 : decode cX8_lookUpByRule 2 = .ok (.bipush (-9), 2) := by decide +kernel
theorem dX8_lookUpByRule_4 : decode cX8_lookUpByRule 4 = .ok (.if_icmp .ne 8, 3) := by decide +kernel
theorem dX8_lookUpByRule_7 : decode cX8_lookUpByRule 7 = .ok (.bipush (-9), 2) := by decide +kernel
theorem dX8_lookUpByRule_9 : decode cX8_lookUpByRule 9 = .ok (.goto 8, 3) := by decide +kernel
theorem dX8_lookUpByRule_12 : decode cX8_lookUpByRule 12 = .ok (.iload 4, 2) := by decide +kernel
theorem dX8_lookUpByRule_14 : decode cX8_lookUpByRule 14 = .ok (.bipush 100, 2) := by decide +kernel
theorem dX8_lookUpByRule_16 : decode cX8_lookUpByRule 16 = .ok (.idiv, 1) := by decide +kernel
theorem dX8_lookUpByRule_17 : decode cX8_lookUpByRule 17 = .ok (.istore 5, 2) := by decide +kernel
theorem dX8_lookUpByRule_19 : decode cX8_lookUpByRule 19 = .ok (.iconst 0, 1) := by decide +kernel
theorem dX8_lookUpByRule_20 : decode cX8_lookUpByRule 20 = .ok (.istore 6, 2) := by decide +kernel
theorem dX8_lookUpByRule_22 : decode cX8_lookUpByRule 22 = .ok (.iload 6, 2) := by decide +kernel
theorem dX8_lookUpByRule_24 : decode cX8_lookUpByRule 24 = .ok (.aload_n 1, 1) := by decide +kernel
theorem dX8_lookUpByRule_25 : decode cX8_lookUpByRule 25 = .ok (.getfield 83, 3) := by decide +kernel
theorem dX8_lookUpByRule_28 : decode cX8_lookUpByRule 28 = .ok (.getfield 108, 3) := by decide +kernel
theorem dX8_lookUpByRule_31 : decode cX8_lookUpByRule 31 = .ok (.if_icmp .ge 71, 3) := by decide +kernel
theorem dX8_lookUpByRule_34 : decode cX8_lookUpByRule 34 = .ok (.aload_n 1, 1) := by decide +kernel
theorem dX8_lookUpByRule_35 : decode cX8_lookUpByRule 35 = .ok (.getfield 83, 3) := by decide +kernel
theorem dX8_lookUpByRule_38 : decode cX8_lookUpByRule 38 = .ok (.getfield 111, 3) := by decide +kernel
theorem dX8_lookUpByRule_41 : decode cX8_lookUpByRule 41 = .ok (.iload_n 2, 1) := by decide +kernel
theorem dX8_lookUpByRule_42 : decode cX8_lookUpByRule 42 = .ok (.aaload, 1) := by decide +kernel
theorem dX8_lookUpByRule_43 : decode cX8_lookUpByRule 43 = .ok (.iload 6, 2) := by decide +kernel
theorem dX8_lookUpByRule_45 : decode cX8_lookUpByRule 45 = .ok (.iaload, 1) := by decide +kernel
theorem dX8_lookUpByRule_46 : decode cX8_lookUpByRule 46 = .ok (.istore 7, 2) := by decide +kernel
theorem dX8_lookUpByRule_48 : decode cX8_lookUpByRule 48 = .ok (.iload 7, 2) := by decide +kernel
theorem dX8_lookUpByRule_50 : decode cX8_lookUpByRule 50 = .ok (.ifCond .eq 46, 3) := by decide +kernel
theorem dX8_lookUpByRule_53 : decode cX8_lookUpByRule 53 = .ok (.iload 6, 2) := by decide +kernel
theorem dX8_lookUpByRule_55 : decode cX8_lookUpByRule 55 = .ok (.iload 5, 2) := by decide +kernel
theorem dX8_lookUpByRule_57 : decode cX8_lookUpByRule 57 = .ok (.if_icmp .eq 39, 3) := by decide +kernel
theorem dX8_lookUpByRule_60 : decode cX8_lookUpByRule 60 = .ok (.iload 7, 2) := by decide +kernel
theorem dX8_lookUpByRule_62 : decode cX8_lookUpByRule 62 = .ok (.ifCond .le 7, 3) := by decide +kernel
theorem dX8_lookUpByRule_65 : decode cX8_lookUpByRule 65 = .ok (.iconst 0, 1) := by decide +kernel
theorem dX8_lookUpByRule_66 : decode cX8_lookUpByRule 66 = .ok (.goto 4, 3) := by decide +kernel
theorem dX8_lookUpByRule_69 : decode cX8_lookUpByRule 69 = .ok (.iconst 1, 1) := by decide +kernel
theorem dX8_lookUpByRule_70 : decode cX8_lookUpByRule 70 = .ok (.istore 8, 2) := by decide +kernel
theorem dX8_lookUpByRule_72 : decode cX8_lookUpByRule 72 = .ok (.aload_n 0, 1) := by decide +kernel
theorem dX8_lookUpByRule_73 : decode cX8_lookUpByRule 73 = .ok (.getfield 15, 3) := by decide +kernel
theorem dX8_lookUpByRule_76 : decode cX8_lookUpByRule 76 = .ok (.iload 6, 2) := by decide +kernel
theorem dX8_lookUpByRule_78 : decode cX8_lookUpByRule 78 = .ok (.iconst 2, 1) := by decide +kernel
theorem dX8_lookUpByRule_79 : decode cX8_lookUpByRule 79 = .ok (.imul, 1) := by decide +kernel
theorem dX8_lookUpByRule_80 : decode cX8_lookUpByRule 80 = .ok (.iload 8, 2) := by decide +kernel
theorem dX8_lookUpByRule_82 : decode cX8_lookUpByRule 82 = .ok (.iadd, 1) := by decide +kernel
theorem dX8_lookUpByRule_83 : decode cX8_lookUpByRule 83 = .ok (.aload_n 1, 1) := by decide +kernel
theorem dX8_lookUpByRule_84 : decode cX8_lookUpByRule 84 = .ok (.getfield 18, 3) := by decide +kernel
theorem dX8_lookUpByRule_87 : decode cX8_lookUpByRule 87 = .ok (.iload_n 3, 1) := by decide +kernel
theorem dX8_lookUpByRule_88 : decode cX8_lookUpByRule 88 = .ok (.iload 6, 2) := by decide +kernel
theorem dX8_lookUpByRule_90 : decode cX8_lookUpByRule 90 = .ok (.iload 8, 2) := by decide +kernel
theorem dX8_lookUpByRule_92 : decode cX8_lookUpByRule 92 = .ok (.invokevirtual 115, 3) := by decide +kernel
theorem dX8_lookUpByRule_95 : decode cX8_lookUpByRule 95 = .ok (.iastore, 1) := by decide +kernel
theorem dX8_lookUpByRule_96 : decode cX8_lookUpByRule 96 = .ok (.iinc 6 1, 3) := by decide +kernel
theorem dX8_lookUpByRule_99 : decode cX8_lookUpByRule 99 = .ok (.goto (-77), 3) := by decide +kernel
theorem dX8_lookUpByRule_102 : decode cX8_lookUpByRule 102 = .ok (.return_, 1) := by decide +kernel
theorem dX8_lookUpByCut_0 : decode cX8_lookUpByCut 0 = .ok (.iconst 0, 1) := by decide +kernel
theorem dX8_lookUpByCut_1 : decode cX8_lookUpByCut 1 = .ok (.istore 5, 2) := by decide +kernel
theorem dX8_lookUpByCut_3 : decode cX8_lookUpByCut 3 = .ok (.iload 5, 2) := by decide +kernel
theorem dX8_lookUpByCut_5 : decode cX8_lookUpByCut 5 = .ok (.aload_n 1, 1) := by decide +kernel
theorem dX8_lookUpByCut_6 : decode cX8_lookUpByCut 6 = .ok (.getfield 96, 3) := by decide +kernel
theorem dX8_lookUpByCut_9 : decode cX8_lookUpByCut 9 = .ok (.getfield 119, 3) := by decide +kernel
theorem dX8_lookUpByCut_12 : decode cX8_lookUpByCut 12 = .ok (.iload_n 2, 1) := by decide +kernel
theorem dX8_lookUpByCut_13 : decode cX8_lookUpByCut 13 = .ok (.iaload, 1) := by decide +kernel
theorem dX8_lookUpByCut_14 : decode cX8_lookUpByCut 14 = .ok (.if_icmp .ge 69, 3) := by decide +kernel
theorem dX8_lookUpByCut_17 : decode cX8_lookUpByCut 17 = .ok (.aload_n 1, 1) := by decide +kernel
theorem dX8_lookUpByCut_18 : decode cX8_lookUpByCut 18 = .ok (.getfield 96, 3) := by decide +kernel
theorem dX8_lookUpByCut_21 : decode cX8_lookUpByCut 21 = .ok (.iload_n 2, 1) := by decide +kernel
theorem dX8_lookUpByCut_22 : decode cX8_lookUpByCut 22 = .ok (.iload 5, 2) := by decide +kernel
theorem dX8_lookUpByCut_24 : decode cX8_lookUpByCut 24 = .ok (.invokevirtual 122, 3) := by decide +kernel
theorem dX8_lookUpByCut_27 : decode cX8_lookUpByCut 27 = .ok (.istore 6, 2) := by decide +kernel
theorem dX8_lookUpByCut_29 : decode cX8_lookUpByCut 29 = .ok (.iload 4, 2) := by decide +kernel
theorem dX8_lookUpByCut_31 : decode cX8_lookUpByCut 31 = .ok (.bipush (-9), 2) := by decide +kernel
theorem dX8_lookUpByCut_33 : decode cX8_lookUpByCut 33 = .ok (.if_icmp .eq 13, 3) := by decide +kernel
theorem dX8_lookUpByCut_36 : decode cX8_lookUpByCut 36 = .ok (.iload 6, 2) := by decide +kernel
theorem dX8_lookUpByCut_38 : decode cX8_lookUpByCut 38 = .ok (.invokestatic 125, 3) := by decide +kernel
theorem dX8_lookUpByCut_41 : decode cX8_lookUpByCut 41 = .ok (.iload 4, 2) := by decide +kernel
theorem dX8_lookUpByCut_43 : decode cX8_lookUpByCut 43 = .ok (.if_icmp .eq 34, 3) := by decide +kernel
theorem dX8_lookUpByCut_46 : decode cX8_lookUpByCut 46 = .ok (.aload_n 0, 1) := by decide +kernel
theorem dX8_lookUpByCut_47 : decode cX8_lookUpByCut 47 = .ok (.getfield 15, 3) := by decide +kernel
theorem dX8_lookUpByCut_50 : decode cX8_lookUpByCut 50 = .ok (.iload 6, 2) := by decide +kernel
theorem dX8_lookUpByCut_52 : decode cX8_lookUpByCut 52 = .ok (.invokestatic 74, 3) := by decide +kernel
theorem dX8_lookUpByCut_55 : decode cX8_lookUpByCut 55 = .ok (.aload_n 1, 1) := by decide +kernel
theorem dX8_lookUpByCut_56 : decode cX8_lookUpByCut 56 = .ok (.getfield 18, 3) := by decide +kernel
theorem dX8_lookUpByCut_59 : decode cX8_lookUpByCut 59 = .ok (.iload_n 3, 1) := by decide +kernel
theorem dX8_lookUpByCut_60 : decode cX8_lookUpByCut 60 = .ok (.iload 6, 2) := by decide +kernel
theorem dX8_lookUpByCut_62 : decode cX8_lookUpByCut 62 = .ok (.bipush 100, 2) := by decide +kernel
theorem dX8_lookUpByCut_64 : decode cX8_lookUpByCut 64 = .ok (.idiv, 1) := by decide +kernel
theorem dX8_lookUpByCut_65 : decode cX8_lookUpByCut 65 = .ok (.iload 6, 2) := by decide +kernel
theorem dX8_lookUpByCut_67 : decode cX8_lookUpByCut 67 = .ok (.bipush 10, 2) := by decide +kernel
theorem dX8_lookUpByCut_69 : decode cX8_lookUpByCut 69 = .ok (.idiv, 1) := by decide +kernel
theorem dX8_lookUpByCut_70 : decode cX8_lookUpByCut 70 = .ok (.bipush 10, 2) := by decide +kernel
theorem dX8_lookUpByCut_72 : decode cX8_lookUpByCut 72 = .ok (.irem, 1) := by decide +kernel
theorem dX8_lookUpByCut_73 : decode cX8_lookUpByCut 73 = .ok (.invokevirtual 115, 3) := by decide +kernel
theorem dX8_lookUpByCut_76 : decode cX8_lookUpByCut 76 = .ok (.iastore, 1) := by decide +kernel
theorem dX8_lookUpByCut_77 : decode cX8_lookUpByCut 77 = .ok (.iinc 5 1, 3) := by decide +kernel
theorem dX8_lookUpByCut_80 : decode cX8_lookUpByCut 80 = .ok (.goto (-77), 3) := by decide +kernel
theorem dX8_lookUpByCut_83 : decode cX8_lookUpByCut 83 = .ok (.return_, 1) := by decide +kernel
theorem dX8_addCut_0 : decode cX8_addCut 0 = .ok (.aload_n 1, 1) := by decide +kernel
theorem dX8_addCut_1 : decode cX8_addCut 1 = .ok (.getfield 18, 3) := by decide +kernel
theorem dX8_addCut_4 : decode cX8_addCut 4 = .ok (.astore_n 2, 1) := by decide +kernel
theorem dX8_addCut_5 : decode cX8_addCut 5 = .ok (.aload_n 1, 1) := by decide +kernel
theorem dX8_addCut_6 : decode cX8_addCut 6 = .ok (.getfield 96, 3) := by decide +kernel
theorem dX8_addCut_9 : decode cX8_addCut 9 = .ok (.getfield 128, 3) := by decide +kernel
theorem dX8_addCut_12 : decode cX8_addCut 12 = .ok (.bipush 40, 2) := by decide +kernel
theorem dX8_addCut_14 : decode cX8_addCut 14 = .ok (.if_icmp .lt 7, 3) := by decide +kernel
theorem dX8_addCut_17 : decode cX8_addCut 17 = .ok (.aload_n 1, 1) := by decide +kernel
theorem dX8_addCut_18 : decode cX8_addCut 18 = .ok (.invokevirtual 131, 3) := by decide +kernel
theorem dX8_addCut_21 : decode cX8_addCut 21 = .ok (.aload_n 1, 1) := by decide +kernel
theorem dX8_addCut_22 : decode cX8_addCut 22 = .ok (.getfield 96, 3) := by decide +kernel
theorem dX8_addCut_25 : decode cX8_addCut 25 = .ok (.invokevirtual 134, 3) := by decide +kernel
theorem dX8_addCut_28 : decode cX8_addCut 28 = .ok (.iconst 0, 1) := by decide +kernel
theorem dX8_addCut_29 : decode cX8_addCut 29 = .ok (.istore_n 3, 1) := by decide +kernel
theorem dX8_addCut_30 : decode cX8_addCut 30 = .ok (.iconst 0, 1) := by decide +kernel
theorem dX8_addCut_31 : decode cX8_addCut 31 = .ok (.istore 4, 2) := by decide +kernel
theorem dX8_addCut_33 : decode cX8_addCut 33 = .ok (.iload 4, 2) := by decide +kernel
theorem dX8_addCut_35 : decode cX8_addCut 35 = .ok (.aload_n 2, 1) := by decide +kernel
theorem dX8_addCut_36 : decode cX8_addCut 36 = .ok (.getfield 40, 3) := by decide +kernel
theorem dX8_addCut_39 : decode cX8_addCut 39 = .ok (.if_icmp .ge 46, 3) := by decide +kernel
theorem dX8_addCut_42 : decode cX8_addCut 42 = .ok (.aload_n 0, 1) := by decide +kernel
theorem dX8_addCut_43 : decode cX8_addCut 43 = .ok (.getfield 9, 3) := by decide +kernel
theorem dX8_addCut_46 : decode cX8_addCut 46 = .ok (.aload_n 2, 1) := by decide +kernel
theorem dX8_addCut_47 : decode cX8_addCut 47 = .ok (.getfield 29, 3) := by decide +kernel
theorem dX8_addCut_50 : decode cX8_addCut 50 = .ok (.iload 4, 2) := by decide +kernel
theorem dX8_addCut_52 : decode cX8_addCut 52 = .ok (.iaload, 1) := by decide +kernel
theorem dX8_addCut_53 : decode cX8_addCut 53 = .ok (.invokestatic 74, 3) := by decide +kernel
theorem dX8_addCut_56 : decode cX8_addCut 56 = .ok (.iaload, 1) := by decide +kernel
theorem dX8_addCut_57 : decode cX8_addCut 57 = .ok (.iload 4, 2) := by decide +kernel
theorem dX8_addCut_59 : decode cX8_addCut 59 = .ok (.if_icmp .ne 20, 3) := by decide +kernel
theorem dX8_addCut_62 : decode cX8_addCut 62 = .ok (.aload_n 1, 1) := by decide +kernel
theorem dX8_addCut_63 : decode cX8_addCut 63 = .ok (.getfield 96, 3) := by decide +kernel
theorem dX8_addCut_66 : decode cX8_addCut 66 = .ok (.aload_n 2, 1) := by decide +kernel
theorem dX8_addCut_67 : decode cX8_addCut 67 = .ok (.getfield 29, 3) := by decide +kernel
theorem dX8_addCut_70 : decode cX8_addCut 70 = .ok (.iload 4, 2) := by decide +kernel
theorem dX8_addCut_72 : decode cX8_addCut 72 = .ok (.iaload, 1) := by decide +kernel
theorem dX8_addCut_73 : decode cX8_addCut 73 = .ok (.invokevirtual 137, 3) := by decide +kernel
theorem dX8_addCut_76 : decode cX8_addCut 76 = .ok (.iinc 3 1, 3) := by decide +kernel
theorem dX8_addCut_79 : decode cX8_addCut 79 = .ok (.iinc 4 1, 3) := by decide +kernel
theorem dX8_addCut_82 : decode cX8_addCut 82 = .ok (.goto (-49), 3) := by decide +kernel
theorem dX8_addCut_85 : decode cX8_addCut 85 = .ok (.iload_n 3, 1) := by decide +kernel
theorem dX8_addCut_86 : decode cX8_addCut 86 = .ok (.ireturn, 1) := by decide +kernel
theorem dX9_init_0 : decode cX9_init 0 = .ok (.aload_n 0, 1) := by decide +kernel
theorem dX9_init_1 : decode cX9_init 1 = .ok (.invokespecial 3, 3) := by decide +kernel
theorem dX9_init_4 : decode cX9_init 4 = .ok (.aload_n 0, 1) := by decide +kernel
theorem dX9_init_5 : decode cX9_init 5 = .ok (.bipush 36, 2) := by decide +kernel
theorem dX9_init_7 : decode cX9_init 7 = .ok (.newarray .int, 2) := by decide +kernel
theorem dX9_init_9 : decode cX9_init 9 = .ok (.putfield 9, 3) := by decide +kernel
theorem dX9_init_12 : decode cX9_init 12 = .ok (.aload_n 0, 1) := by decide +kernel
theorem dX9_init_13 : decode cX9_init 13 = .ok (.bipush 36, 2) := by decide +kernel
theorem dX9_init_15 : decode cX9_init 15 = .ok (.newarray .int, 2) := by decide +kernel
theorem dX9_init_17 : decode cX9_init 17 = .ok (.putfield 15, 3) := by decide +kernel
theorem dX9_init_20 : decode cX9_init 20 = .ok (.aload_n 0, 1) := by decide +kernel
theorem dX9_init_21 : decode cX9_init 21 = .ok (.bipush 36, 2) := by decide +kernel
theorem dX9_init_23 : decode cX9_init 23 = .ok (.newarray .int, 2) := by decide +kernel
theorem dX9_init_25 : decode cX9_init 25 = .ok (.putfield 18, 3) := by decide +kernel
theorem dX9_init_28 : decode cX9_init 28 = .ok (.aload_n 0, 1) := by decide +kernel
theorem dX9_init_29 : decode cX9_init 29 = .ok (.iconst 4, 1) := by decide +kernel
theorem dX9_init_30 : decode cX9_init 30 = .ok (.newarray .int, 2) := by decide +kernel
theorem dX9_init_32 : decode cX9_init 32 = .ok (.putfield 21, 3) := by decide +kernel
theorem dX9_init_35 : decode cX9_init 35 = .ok (.aload_n 0, 1) := by decide +kernel
theorem dX9_init_36 : decode cX9_init 36 = .ok (.iconst 4, 1) := by decide +kernel
theorem dX9_init_37 : decode cX9_init 37 = .ok (.newarray .int, 2) := by decide +kernel
theorem dX9_init_39 : decode cX9_init 39 = .ok (.putfield 24, 3) := by decide +kernel
theorem dX9_init_42 : decode cX9_init 42 = .ok (.aload_n 0, 1) := by decide +kernel
theorem dX9_init_43 : decode cX9_init 43 = .ok (.iconst 0, 1) := by decide +kernel
theorem dX9_init_44 : decode cX9_init 44 = .ok (.putfield 27, 3) := by decide +kernel
theorem dX9_init_47 : decode cX9_init 47 = .ok (.aload_n 0, 1) := by decide +kernel
theorem dX9_init_48 : decode cX9_init 48 = .ok (.aload_n 1, 1) := by decide +kernel
theorem dX9_init_49 : decode cX9_init 49 = .ok (.putfield 31, 3) := by decide +kernel
theorem dX9_init_52 : decode cX9_init 52 = .ok (.aload_n 0, 1) := by decide +kernel
theorem dX9_init_53 : decode cX9_init 53 = .ok (.iconst 0, 1) := by decide +kernel
theorem dX9_init_54 : decode cX9_init 54 = .ok (.invokevirtual 35, 3) := by decide +kernel
theorem dX9_init_57 : decode cX9_init 57 = .ok (.return_, 1) := by decide +kernel
theorem dX9_level_0 : decode cX9_level 0 = .ok (.aload_n 0, 1) := by decide +kernel
theorem dX9_level_1 : decode cX9_level 1 = .ok (.getfield 27, 3) := by decide +kernel
theorem dX9_level_4 : decode cX9_level 4 = .ok (.ifCond .le 17, 3) := by decide +kernel
theorem dX9_level_7 : decode cX9_level 7 = .ok (.aload_n 0, 1) := by decide +kernel
theorem dX9_level_8 : decode cX9_level 8 = .ok (.getfield 15, 3) := by decide +kernel
theorem dX9_level_11 : decode cX9_level 11 = .ok (.aload_n 0, 1) := by decide +kernel
theorem dX9_level_12 : decode cX9_level 12 = .ok (.getfield 27, 3) := by decide +kernel
theorem dX9_level_15 : decode cX9_level 15 = .ok (.iconst 1, 1) := by decide +kernel
theorem dX9_level_16 : decode cX9_level 16 = .ok (.isub, 1) := by decide +kernel
theorem dX9_level_17 : decode cX9_level 17 = .ok (.iaload, 1) := by decide +kernel
theorem dX9_level_18 : decode cX9_level 18 = .ok (.goto 4, 3) := by decide +kernel
theorem dX9_level_21 : decode cX9_level 21 = .ok (.iconst 0, 1) := by decide +kernel
theorem dX9_level_22 : decode cX9_level 22 = .ok (.ireturn, 1) := by decide +kernel
theorem dX9_put_0 : decode cX9_put 0 = .ok (.aload_n 0, 1) := by decide +kernel
theorem dX9_put_1 : decode cX9_put 1 = .ok (.getfield 27, 3) := by decide +kernel
theorem dX9_put_4 : decode cX9_put 4 = .ok (.bipush 36, 2) := by decide +kernel
theorem dX9_put_6 : decode cX9_put 6 = .ok (.if_icmp .ge 48, 3) := by decide +kernel
theorem dX9_put_9 : decode cX9_put 9 = .ok (.aload_n 0, 1) := by decide +kernel
theorem dX9_put_10 : decode cX9_put 10 = .ok (.getfield 9, 3) := by decide +kernel
theorem dX9_put_13 : decode cX9_put 13 = .ok (.aload_n 0, 1) := by decide +kernel
theorem dX9_put_14 : decode cX9_put 14 = .ok (.getfield 27, 3) := by decide +kernel
theorem dX9_put_17 : decode cX9_put 17 = .ok (.iload_n 1, 1) := by decide +kernel
theorem dX9_put_18 : decode cX9_put 18 = .ok (.iastore, 1) := by decide +kernel
theorem dX9_put_19 : decode cX9_put 19 = .ok (.aload_n 0, 1) := by decide +kernel
theorem dX9_put_20 : decode cX9_put 20 = .ok (.getfield 15, 3) := by decide +kernel
theorem dX9_put_23 : decode cX9_put 23 = .ok (.aload_n 0, 1) := by decide +kernel
theorem dX9_put_24 : decode cX9_put 24 = .ok (.getfield 27, 3) := by decide +kernel
theorem dX9_put_27 : decode cX9_put 27 = .ok (.iload_n 2, 1) := by decide +kernel
theorem dX9_put_28 : decode cX9_put 28 = .ok (.iastore, 1) := by decide +kernel
theorem dX9_put_29 : decode cX9_put 29 = .ok (.aload_n 0, 1) := by decide +kernel
theorem dX9_put_30 : decode cX9_put 30 = .ok (.getfield 18, 3) := by decide +kernel
theorem dX9_put_33 : decode cX9_put 33 = .ok (.aload_n 0, 1) := by decide +kernel
theorem dX9_put_34 : decode cX9_put 34 = .ok (.getfield 27, 3) := by decide +kernel
theorem dX9_put_37 : decode cX9_put 37 = .ok (.iload_n 3, 1) := by decide +kernel
theorem dX9_put_38 : decode cX9_put 38 = .ok (.iastore, 1) := by decide +kernel
theorem dX9_put_39 : decode cX9_put 39 = .ok (.aload_n 0, 1) := by decide +kernel
theorem dX9_put_40 : decode cX9_put 40 = .ok (.dup, 1) := by decide +kernel
theorem dX9_put_41 : decode cX9_put 41 = .ok (.getfield 27, 3) := by decide +kernel
theorem dX9_put_44 : decode cX9_put 44 = .ok (.iconst 1, 1) := by decide +kernel
theorem dX9_put_45 : decode cX9_put 45 = .ok (.iadd, 1) := by decide +kernel
theorem dX9_put_46 : decode cX9_put 46 = .ok (.putfield 27, 3) := by decide +kernel
theorem dX9_put_49 : decode cX9_put 49 = .ok (.aload_n 0, 1) := by decide +kernel
theorem dX9_put_50 : decode cX9_put 50 = .ok (.iload_n 1, 1) := by decide +kernel
theorem dX9_put_51 : decode cX9_put 51 = .ok (.invokevirtual 39, 3) := by decide +kernel
theorem dX9_put_54 : decode cX9_put 54 = .ok (.return_, 1) := by decide +kernel
theorem dX9_draw_0 : decode cX9_draw 0 = .ok (.iload_n 1, 1) := by decide +kernel
theorem dX9_draw_1 : decode cX9_draw 1 = .ok (.bipush 10, 2) := by decide +kernel
theorem dX9_draw_3 : decode cX9_draw 3 = .ok (.idiv, 1) := by decide +kernel
theorem dX9_draw_4 : decode cX9_draw 4 = .ok (.bipush 10, 2) := by decide +kernel
theorem dX9_draw_6 : decode cX9_draw 6 = .ok (.irem, 1) := by decide +kernel
theorem dX9_draw_7 : decode cX9_draw 7 = .ok (.ifCond .ne 10, 3) := by decide +kernel
theorem dX9_draw_10 : decode cX9_draw 10 = .ok (.aload_n 0, 1) := by decide +kernel
theorem dX9_draw_11 : decode cX9_draw 11 = .ok (.getfield 21, 3) := by decide +kernel
theorem dX9_draw_14 : decode cX9_draw 14 = .ok (.goto 7, 3) := by decide +kernel
theorem dX9_draw_17 : decode cX9_draw 17 = .ok (.aload_n 0, 1) := by decide +kernel
theorem dX9_draw_18 : decode cX9_draw 18 = .ok (.getfield 24, 3) := by decide +kernel
theorem dX9_draw_21 : decode cX9_draw 21 = .ok (.astore_n 2, 1) := by decide +kernel
theorem dX9_draw_22 : decode cX9_draw 22 = .ok (.aload_n 2, 1) := by decide +kernel
theorem dX9_draw_23 : decode cX9_draw 23 = .ok (.iload_n 1, 1) := by decide +kernel
theorem dX9_draw_24 : decode cX9_draw 24 = .ok (.bipush 100, 2) := by decide +kernel
theorem dX9_draw_26 : decode cX9_draw 26 = .ok (.idiv, 1) := by decide +kernel
theorem dX9_draw_27 : decode cX9_draw 27 = .ok (.iload_n 1, 1) := by decide +kernel
theorem dX9_draw_28 : decode cX9_draw 28 = .ok (.bipush 10, 2) := by decide +kernel
theorem dX9_draw_30 : decode cX9_draw 30 = .ok (.irem, 1) := by decide +kernel
theorem dX9_draw_31 : decode cX9_draw 31 = .ok (.iastore, 1) := by decide +kernel
theorem dX9_draw_32 : decode cX9_draw 32 = .ok (.return_, 1) := by decide +kernel
theorem dX9_cutOff_0 : decode cX9_cutOff 0 = .ok (.aload_n 0, 1) := by decide +kernel
theorem dX9_cutOff_1 : decode cX9_cutOff 1 = .ok (.iload_n 1, 1) := by decide +kernel
theorem dX9_cutOff_2 : decode cX9_cutOff 2 = .ok (.putfield 27, 3) := by decide +kernel
theorem dX9_cutOff_5 : decode cX9_cutOff 5 = .ok (.iconst 0, 1) := by decide +kernel
theorem dX9_cutOff_6 : decode cX9_cutOff 6 = .ok (.istore_n 2, 1) := by decide +kernel
theorem dX9_cutOff_7 : decode cX9_cutOff 7 = .ok (.iload_n 2, 1) := by decide +kernel
theorem dX9_cutOff_8 : decode cX9_cutOff 8 = .ok (.iconst 4, 1) := by decide +kernel
theorem dX9_cutOff_9 : decode cX9_cutOff 9 = .ok (.if_icmp .ge 31, 3) := by decide +kernel
theorem dX9_cutOff_12 : decode cX9_cutOff 12 = .ok (.aload_n 0, 1) := by decide +kernel
theorem dX9_cutOff_13 : decode cX9_cutOff 13 = .ok (.getfield 21, 3) := by decide +kernel
theorem dX9_cutOff_16 : decode cX9_cutOff 16 = .ok (.iload_n 2, 1) := by decide +kernel
theorem dX9_cutOff_17 : decode cX9_cutOff 17 = .ok (.iconst 0, 1) := by decide +kernel
theorem dX9_cutOff_18 : decode cX9_cutOff 18 = .ok (.iastore, 1) := by decide +kernel
theorem dX9_cutOff_19 : decode cX9_cutOff 19 = .ok (.aload_n 0, 1) := by decide +kernel
theorem dX9_cutOff_20 : decode cX9_cutOff 20 = .ok (.getfield 24, 3) := by decide +kernel
theorem dX9_cutOff_23 : decode cX9_cutOff 23 = .ok (.iload_n 2, 1) := by decide +kernel
theorem dX9_cutOff_24 : decode cX9_cutOff 24 = .ok (.aload_n 0, 1) := by decide +kernel
theorem dX9_cutOff_25 : decode cX9_cutOff 25 = .ok (.getfield 31, 3) := by decide +kernel
theorem dX9_cutOff_28 : decode cX9_cutOff 28 = .ok (.getfield 42, 3) := by decide +kernel
theorem dX9_cutOff_31 : decode cX9_cutOff 31 = .ok (.iload_n 2, 1) := by decide +kernel
theorem dX9_cutOff_32 : decode cX9_cutOff 32 = .ok (.iaload, 1) := by decide +kernel
theorem dX9_cutOff_33 : decode cX9_cutOff 33 = .ok (.iastore, 1) := by decide +kernel
theorem dX9_cutOff_34 : decode cX9_cutOff 34 = .ok (.iinc 2 1, 3) := by decide +kernel
theorem dX9_cutOff_37 : decode cX9_cutOff 37 = .ok (.goto (-30), 3) := by decide +kernel
theorem dX9_cutOff_40 : decode cX9_cutOff 40 = .ok (.iconst 0, 1) := by decide +kernel
theorem dX9_cutOff_41 : decode cX9_cutOff 41 = .ok (.istore_n 2, 1) := by decide +kernel
theorem dX9_cutOff_42 : decode cX9_cutOff 42 = .ok (.iload_n 2, 1) := by decide +kernel
theorem dX9_cutOff_43 : decode cX9_cutOff 43 = .ok (.aload_n 0, 1) := by decide +kernel
theorem dX9_cutOff_44 : decode cX9_cutOff 44 = .ok (.getfield 27, 3) := by decide +kernel
theorem dX9_cutOff_47 : decode cX9_cutOff 47 = .ok (.if_icmp .ge 19, 3) := by decide +kernel
theorem dX9_cutOff_50 : decode cX9_cutOff 50 = .ok (.aload_n 0, 1) := by decide +kernel
theorem dX9_cutOff_51 : decode cX9_cutOff 51 = .ok (.aload_n 0, 1) := by decide +kernel
theorem dX9_cutOff_52 : decode cX9_cutOff 52 = .ok (.getfield 9, 3) := by decide +kernel
theorem dX9_cutOff_55 : decode cX9_cutOff 55 = .ok (.iload_n 2, 1) := by decide +kernel
theorem dX9_cutOff_56 : decode cX9_cutOff 56 = .ok (.iaload, 1) := by decide +kernel
theorem dX9_cutOff_57 : decode cX9_cutOff 57 = .ok (.invokevirtual 39, 3) := by decide +kernel
theorem dX9_cutOff_60 : decode cX9_cutOff 60 = .ok (.iinc 2 1, 3) := by decide +kernel
theorem dX9_cutOff_63 : decode cX9_cutOff 63 = .ok (.goto (-21), 3) := by decide +kernel
theorem dX9_cutOff_66 : decode cX9_cutOff 66 = .ok (.return_, 1) := by decide +kernel
theorem dX9_cutAbove_0 : decode cX9_cutAbove 0 = .ok (.aload_n 0, 1) := by decide +kernel
theorem dX9_cutAbove_1 : decode cX9_cutAbove 1 = .ok (.getfield 27, 3) := by decide +kernel
theorem dX9_cutAbove_4 : decode cX9_cutAbove 4 = .ok (.istore_n 2, 1) := by decide +kernel
theorem dX9_cutAbove_5 : decode cX9_cutAbove 5 = .ok (.iload_n 2, 1) := by decide +kernel
theorem dX9_cutAbove_6 : decode cX9_cutAbove 6 = .ok (.ifCond .le 21, 3) := by decide +kernel
theorem dX9_cutAbove_9 : decode cX9_cutAbove 9 = .ok (.aload_n 0, 1) := by decide +kernel
theorem dX9_cutAbove_10 : decode cX9_cutAbove 10 = .ok (.getfield 15, 3) := by decide +kernel
theorem dX9_cutAbove_13 : decode cX9_cutAbove 13 = .ok (.iload_n 2, 1) := by decide +kernel
theorem dX9_cutAbove_14 : decode cX9_cutAbove 14 = .ok (.iconst 1, 1) := by decide +kernel
theorem dX9_cutAbove_15 : decode cX9_cutAbove 15 = .ok (.isub, 1) := by decide +kernel
theorem dX9_cutAbove_16 : decode cX9_cutAbove 16 = .ok (.iaload, 1) := by decide +kernel
theorem dX9_cutAbove_17 : decode cX9_cutAbove 17 = .ok (.iload_n 1, 1) := by decide +kernel
theorem dX9_cutAbove_18 : decode cX9_cutAbove 18 = .ok (.if_icmp .le 9, 3) := by decide +kernel
theorem dX9_cutAbove_21 : decode cX9_cutAbove 21 = .ok (.iinc 2 (-1), 3) := by decide +kernel
theorem dX9_cutAbove_24 : decode cX9_cutAbove 24 = .ok (.goto (-19), 3) := by decide +kernel
theorem dX9_cutAbove_27 : decode cX9_cutAbove 27 = .ok (.aload_n 0, 1) := by decide +kernel
theorem dX9_cutAbove_28 : decode cX9_cutAbove 28 = .ok (.iload_n 2, 1) := by decide +kernel
theorem dX9_cutAbove_29 : decode cX9_cutAbove 29 = .ok (.invokevirtual 35, 3) := by decide +kernel
theorem dX9_cutAbove_32 : decode cX9_cutAbove 32 = .ok (.return_, 1) := by decide +kernel
theorem dX9_isSo_0 : decode cX9_isSo 0 = .ok (.iload_n 1, 1) := by decide +kernel
theorem dX9_isSo_1 : decode cX9_isSo 1 = .ok (.bipush 100, 2) := by decide +kernel
theorem dX9_isSo_3 : decode cX9_isSo 3 = .ok (.idiv, 1) := by decide +kernel
theorem dX9_isSo_4 : decode cX9_isSo 4 = .ok (.istore_n 2, 1) := by decide +kernel
theorem dX9_isSo_5 : decode cX9_isSo 5 = .ok (.iload_n 1, 1) := by decide +kernel
theorem dX9_isSo_6 : decode cX9_isSo 6 = .ok (.bipush 10, 2) := by decide +kernel
theorem dX9_isSo_8 : decode cX9_isSo 8 = .ok (.irem, 1) := by decide +kernel
theorem dX9_isSo_9 : decode cX9_isSo 9 = .ok (.istore_n 3, 1) := by decide +kernel
theorem dX9_isSo_10 : decode cX9_isSo 10 = .ok (.iload_n 1, 1) := by decide +kernel
theorem dX9_isSo_11 : decode cX9_isSo 11 = .ok (.bipush 10, 2) := by decide +kernel
theorem dX9_isSo_13 : decode cX9_isSo 13 = .ok (.idiv, 1) := by decide +kernel
theorem dX9_isSo_14 : decode cX9_isSo 14 = .ok (.bipush 10, 2) := by decide +kernel
theorem dX9_isSo_16 : decode cX9_isSo 16 = .ok (.irem, 1) := by decide +kernel
theorem dX9_isSo_17 : decode cX9_isSo 17 = .ok (.ifCond .ne 21, 3) := by decide +kernel
theorem dX9_isSo_20 : decode cX9_isSo 20 = .ok (.iload_n 3, 1) := by decide +kernel
theorem dX9_isSo_21 : decode cX9_isSo 21 = .ok (.aload_n 0, 1) := by decide +kernel
theorem dX9_isSo_22 : decode cX9_isSo 22 = .ok (.getfield 21, 3) := by decide +kernel
theorem dX9_isSo_25 : decode cX9_isSo 25 = .ok (.iload_n 2, 1) := by decide +kernel
theorem dX9_isSo_26 : decode cX9_isSo 26 = .ok (.iaload, 1) := by decide +kernel
theorem dX9_isSo_27 : decode cX9_isSo 27 = .ok (.if_icmp .gt 7, 3) := by decide +kernel
theorem dX9_isSo_30 : decode cX9_isSo 30 = .ok (.iconst 1, 1) := by decide +kernel
theorem dX9_isSo_31 : decode cX9_isSo 31 = .ok (.goto 22, 3) := by decide +kernel
theorem dX9_isSo_34 : decode cX9_isSo 34 = .ok (.iconst 0, 1) := by decide +kernel
theorem dX9_isSo_35 : decode cX9_isSo 35 = .ok (.goto 18, 3) := by decide +kernel
theorem dX9_isSo_38 : decode cX9_isSo 38 = .ok (.iload_n 3, 1) := by decide +kernel
theorem dX9_isSo_39 : decode cX9_isSo 39 = .ok (.aload_n 0, 1) := by decide +kernel
theorem dX9_isSo_40 : decode cX9_isSo 40 = .ok (.getfield 24, 3) := by decide +kernel
theorem dX9_isSo_43 : decode cX9_isSo 43 = .ok (.iload_n 2, 1) := by decide +kernel
theorem dX9_isSo_44 : decode cX9_isSo 44 = .ok (.iaload, 1) := by decide +kernel
theorem dX9_isSo_45 : decode cX9_isSo 45 = .ok (.if_icmp .lt 7, 3) := by decide +kernel
theorem dX9_isSo_48 : decode cX9_isSo 48 = .ok (.iconst 1, 1) := by decide +kernel
theorem dX9_isSo_49 : decode cX9_isSo 49 = .ok (.goto 4, 3) := by decide +kernel
theorem dX9_isSo_52 : decode cX9_isSo 52 = .ok (.iconst 0, 1) := by decide +kernel
theorem dX9_isSo_53 : decode cX9_isSo 53 = .ok (.ireturn, 1) := by decide +kernel
theorem dX9_isNotSo_0 : decode cX9_isNotSo 0 = .ok (.iload_n 1, 1) := by decide +kernel
theorem dX9_isNotSo_1 : decode cX9_isNotSo 1 = .ok (.bipush 100, 2) := by decide +kernel
theorem dX9_isNotSo_3 : decode cX9_isNotSo 3 = .ok (.idiv, 1) := by decide +kernel
theorem dX9_isNotSo_4 : decode cX9_isNotSo 4 = .ok (.istore_n 2, 1) := by decide +kernel
theorem dX9_isNotSo_5 : decode cX9_isNotSo 5 = .ok (.iload_n 1, 1) := by decide +kernel
theorem dX9_isNotSo_6 : decode cX9_isNotSo 6 = .ok (.bipush 10, 2) := by decide +kernel
theorem dX9_isNotSo_8 : decode cX9_isNotSo 8 = .ok (.irem, 1) := by decide +kernel
theorem dX9_isNotSo_9 : decode cX9_isNotSo 9 = .ok (.istore_n 3, 1) := by decide +kernel
theorem dX9_isNotSo_10 : decode cX9_isNotSo 10 = .ok (.iload_n 1, 1) := by decide +kernel
theorem dX9_isNotSo_11 : decode cX9_isNotSo 11 = .ok (.bipush 10, 2) := by decide +kernel
theorem dX9_isNotSo_13 : decode cX9_isNotSo 13 = .ok (.idiv, 1) := by decide +kernel
theorem dX9_isNotSo_14 : decode cX9_isNotSo 14 = .ok (.bipush 10, 2) := by decide +kernel
theorem dX9_isNotSo_16 : decode cX9_isNotSo 16 = .ok (.irem, 1) := by decide +kernel
theorem dX9_isNotSo_17 : decode cX9_isNotSo 17 = .ok (.ifCond .ne 21, 3) := by decide +kernel
theorem dX9_isNotSo_20 : decode cX9_isNotSo 20 = .ok (.iload_n 3, 1) := by decide +kernel
theorem dX9_isNotSo_21 : decode cX9_isNotSo 21 = .ok (.aload_n 0, 1) := by decide +kernel
theorem dX9_isNotSo_22 : decode cX9_isNotSo 22 = .ok (.getfield 24, 3) := by decide +kernel
theorem dX9_isNotSo_25 : decode cX9_isNotSo 25 = .ok (.iload_n 2, 1) := by decide +kernel
theorem dX9_isNotSo_26 : decode cX9_isNotSo 26 = .ok (.iaload, 1) := by decide +kernel
theorem dX9_isNotSo_27 : decode cX9_isNotSo 27 = .ok (.if_icmp .le 7, 3) := by decide +kernel
theorem dX9_isNotSo_30 : decode cX9_isNotSo 30 = .ok (.iconst 1, 1) := by decide +kernel
theorem dX9_isNotSo_31 : decode cX9_isNotSo 31 = .ok (.goto 22, 3) := by decide +kernel
theorem dX9_isNotSo_34 : decode cX9_isNotSo 34 = .ok (.iconst 0, 1) := by decide +kernel
theorem dX9_isNotSo_35 : decode cX9_isNotSo 35 = .ok (.goto 18, 3) := by decide +kernel
theorem dX9_isNotSo_38 : decode cX9_isNotSo 38 = .ok (.iload_n 3, 1) := by decide +kernel
theorem dX9_isNotSo_39 : decode cX9_isNotSo 39 = .ok (.aload_n 0, 1) := by decide +kernel
theorem dX9_isNotSo_40 : decode cX9_isNotSo 40 = .ok (.getfield 21, 3) := by decide +kernel
theorem dX9_isNotSo_43 : decode cX9_isNotSo 43 = .ok (.iload_n 2, 1) := by decide +kernel
theorem dX9_isNotSo_44 : decode cX9_isNotSo 44 = .ok (.iaload, 1) := by decide +kernel
theorem dX9_isNotSo_45 : decode cX9_isNotSo 45 = .ok (.if_icmp .ge 7, 3) := by decide +kernel
theorem dX9_isNotSo_48 : decode cX9_isNotSo 48 = .ok (.iconst 1, 1) := by decide +kernel
theorem dX9_isNotSo_49 : decode cX9_isNotSo 49 = .ok (.goto 4, 3) := by decide +kernel
theorem dX9_isNotSo_52 : decode cX9_isNotSo 52 = .ok (.iconst 0, 1) := by decide +kernel
theorem dX9_isNotSo_53 : decode cX9_isNotSo 53 = .ok (.ireturn, 1) := by decide +kernel
theorem dX9_firstOpen_0 : decode cX9_firstOpen 0 = .ok (.iconst 0, 1) := by decide +kernel
theorem dX9_firstOpen_1 : decode cX9_firstOpen 1 = .ok (.istore_n 1, 1) := by decide +kernel
theorem dX9_firstOpen_2 : decode cX9_firstOpen 2 = .ok (.iload_n 1, 1) := by decide +kernel
theorem dX9_firstOpen_3 : decode cX9_firstOpen 3 = .ok (.aload_n 0, 1) := by decide +kernel
theorem dX9_firstOpen_4 : decode cX9_firstOpen 4 = .ok (.getfield 31, 3) := by decide +kernel
theorem dX9_firstOpen_7 : decode cX9_firstOpen 7 = .ok (.getfield 47, 3) := by decide +kernel
theorem dX9_firstOpen_10 : decode cX9_firstOpen 10 = .ok (.if_icmp .ge 26, 3) := by decide +kernel
theorem dX9_firstOpen_13 : decode cX9_firstOpen 13 = .ok (.aload_n 0, 1) := by decide +kernel
theorem dX9_firstOpen_14 : decode cX9_firstOpen 14 = .ok (.getfield 21, 3) := by decide +kernel
theorem dX9_firstOpen_17 : decode cX9_firstOpen 17 = .ok (.iload_n 1, 1) := by decide +kernel
theorem dX9_firstOpen_18 : decode cX9_firstOpen 18 = .ok (.iaload, 1) := by decide +kernel
theorem dX9_firstOpen_19 : decode cX9_firstOpen 19 = .ok (.aload_n 0, 1) := by decide +kernel
theorem dX9_firstOpen_20 : decode cX9_firstOpen 20 = .ok (.getfield 24, 3) := by decide +kernel
theorem dX9_firstOpen_23 : decode cX9_firstOpen 23 = .ok (.iload_n 1, 1) := by decide +kernel
theorem dX9_firstOpen_24 : decode cX9_firstOpen 24 = .ok (.iaload, 1) := by decide +kernel
theorem dX9_firstOpen_25 : decode cX9_firstOpen 25 = .ok (.if_icmp .ge 5, 3) := by decide +kernel
theorem dX9_firstOpen_28 : decode cX9_firstOpen 28 = .ok (.iload_n 1, 1) := by decide +kernel
theorem dX9_firstOpen_29 : decode cX9_firstOpen 29 = .ok (.ireturn, 1) := by decide +kernel
theorem dX9_firstOpen_30 : decode cX9_firstOpen 30 = .ok (.iinc 1 1, 3) := by decide +kernel
theorem dX9_firstOpen_33 : decode cX9_firstOpen 33 = .ok (.goto (-31), 3) := by decide +kernel
theorem dX9_firstOpen_36 : decode cX9_firstOpen 36 = .ok (.bipush (-9), 2) := by decide +kernel
theorem dX9_firstOpen_38 : decode cX9_firstOpen 38 = .ok (.ireturn, 1) := by decide +kernel
theorem dX9_lastAhead_0 : decode cX9_lastAhead 0 = .ok (.iload_n 1, 1) := by decide +kernel
theorem dX9_lastAhead_1 : decode cX9_lastAhead 1 = .ok (.aload_n 0, 1) := by decide +kernel
theorem dX9_lastAhead_2 : decode cX9_lastAhead 2 = .ok (.getfield 27, 3) := by decide +kernel
theorem dX9_lastAhead_5 : decode cX9_lastAhead 5 = .ok (.invokestatic 50, 3) := by decide +kernel
theorem dX9_lastAhead_8 : decode cX9_lastAhead 8 = .ok (.iconst 1, 1) := by decide +kernel
theorem dX9_lastAhead_9 : decode cX9_lastAhead 9 = .ok (.isub, 1) := by decide +kernel
theorem dX9_lastAhead_10 : decode cX9_lastAhead 10 = .ok (.istore 4, 2) := by decide +kernel
theorem dX9_lastAhead_12 : decode cX9_lastAhead 12 = .ok (.iload 4, 2) := by decide +kernel
theorem dX9_lastAhead_14 : decode cX9_lastAhead 14 = .ok (.ifCond .lt 31, 3) := by decide +kernel
theorem dX9_lastAhead_17 : decode cX9_lastAhead 17 = .ok (.aload_n 0, 1) := by decide +kernel
theorem dX9_lastAhead_18 : decode cX9_lastAhead 18 = .ok (.getfield 9, 3) := by decide +kernel
theorem dX9_lastAhead_21 : decode cX9_lastAhead 21 = .ok (.iload 4, 2) := by decide +kernel
theorem dX9_lastAhead_23 : decode cX9_lastAhead 23 = .ok (.iaload, 1) := by decide +kernel
theorem dX9_lastAhead_24 : decode cX9_lastAhead 24 = .ok (.bipush 10, 2) := by decide +kernel
theorem dX9_lastAhead_26 : decode cX9_lastAhead 26 = .ok (.idiv, 1) := by decide +kernel
theorem dX9_lastAhead_27 : decode cX9_lastAhead 27 = .ok (.bipush 10, 2) := by decide +kernel
theorem dX9_lastAhead_29 : decode cX9_lastAhead 29 = .ok (.iload_n 2, 1) := by decide +kernel
theorem dX9_lastAhead_30 : decode cX9_lastAhead 30 = .ok (.imul, 1) := by decide +kernel
theorem dX9_lastAhead_31 : decode cX9_lastAhead 31 = .ok (.iload_n 3, 1) := by decide +kernel
theorem dX9_lastAhead_32 : decode cX9_lastAhead 32 = .ok (.iadd, 1) := by decide +kernel
theorem dX9_lastAhead_33 : decode cX9_lastAhead 33 = .ok (.if_icmp .ne 6, 3) := by decide +kernel
theorem dX9_lastAhead_36 : decode cX9_lastAhead 36 = .ok (.iload 4, 2) := by decide +kernel
theorem dX9_lastAhead_38 : decode cX9_lastAhead 38 = .ok (.ireturn, 1) := by decide +kernel
theorem dX9_lastAhead_39 : decode cX9_lastAhead 39 = .ok (.iinc 4 (-1), 3) := by decide +kernel
theorem dX9_lastAhead_42 : decode cX9_lastAhead 42 = .ok (.goto (-30), 3) := by decide +kernel
theorem dX9_lastAhead_45 : decode cX9_lastAhead 45 = .ok (.iconst (-1), 1) := by decide +kernel
theorem dX9_lastAhead_46 : decode cX9_lastAhead 46 = .ok (.ireturn, 1) := by decide +kernel
theorem dX9_hasReason_0 : decode cX9_hasReason 0 = .ok (.iconst 0, 1) := by decide +kernel
theorem dX9_hasReason_1 : decode cX9_hasReason 1 = .ok (.istore_n 2, 1) := by decide +kernel
theorem dX9_hasReason_2 : decode cX9_hasReason 2 = .ok (.iload_n 2, 1) := by decide +kernel
theorem dX9_hasReason_3 : decode cX9_hasReason 3 = .ok (.aload_n 0, 1) := by decide +kernel
theorem dX9_hasReason_4 : decode cX9_hasReason 4 = .ok (.getfield 27, 3) := by decide +kernel
theorem dX9_hasReason_7 : decode cX9_hasReason 7 = .ok (.if_icmp .ge 21, 3) := by decide +kernel
theorem dX9_hasReason_10 : decode cX9_hasReason 10 = .ok (.aload_n 0, 1) := by decide +kernel
theorem dX9_hasReason_11 : decode cX9_hasReason 11 = .ok (.getfield 18, 3) := by decide +kernel
theorem dX9_hasReason_14 : decode cX9_hasReason 14 = .ok (.iload_n 2, 1) := by decide +kernel
theorem dX9_hasReason_15 : decode cX9_hasReason 15 = .ok (.iaload, 1) := by decide +kernel
theorem dX9_hasReason_16 : decode cX9_hasReason 16 = .ok (.iload_n 1, 1) := by decide +kernel
theorem dX9_hasReason_17 : decode cX9_hasReason 17 = .ok (.if_icmp .ne 5, 3) := by decide +kernel
theorem dX9_hasReason_20 : decode cX9_hasReason 20 = .ok (.iconst 1, 1) := by decide +kernel
theorem dX9_hasReason_21 : decode cX9_hasReason 21 = .ok (.ireturn, 1) := by decide +kernel
theorem dX9_hasReason_22 : decode cX9_hasReason 22 = .ok (.iinc 2 1, 3) := by decide +kernel
theorem dX9_hasReason_25 : decode cX9_hasReason 25 = .ok (.goto (-23), 3) := by decide +kernel
theorem dX9_hasReason_28 : decode cX9_hasReason 28 = .ok (.iconst 0, 1) := by decide +kernel
theorem dX9_hasReason_29 : decode cX9_hasReason 29 = .ok (.ireturn, 1) := by decide +kernel
theorem dX9_lowerReasonsAbove_0 : decode cX9_lowerReasonsAbove 0 = .ok (.iconst 0, 1) := by decide +kernel
theorem dX9_lowerReasonsAbove_1 : decode cX9_lowerReasonsAbove 1 = .ok (.istore_n 2, 1) := by decide +kernel
theorem dX9_lowerReasonsAbove_2 : decode cX9_lowerReasonsAbove 2 = .ok (.iload_n 2, 1) := by decide +kernel
theorem dX9_lowerReasonsAbove_3 : decode cX9_lowerReasonsAbove 3 = .ok (.aload_n 0, 1) := by decide +kernel
theorem dX9_lowerReasonsAbove_4 : decode cX9_lowerReasonsAbove 4 = .ok (.getfield 27, 3) := by decide +kernel
theorem dX9_lowerReasonsAbove_7 : decode cX9_lowerReasonsAbove 7 = .ok (.if_icmp .ge 29, 3) := by decide +kernel
theorem dX9_lowerReasonsAbove_10 : decode cX9_lowerReasonsAbove 10 = .ok (.aload_n 0, 1) := by decide +kernel
theorem dX9_lowerReasonsAbove_11 : decode cX9_lowerReasonsAbove 11 = .ok (.getfield 18, 3) := by decide +kernel
theorem dX9_lowerReasonsAbove_14 : decode cX9_lowerReasonsAbove 14 = .ok (.iload_n 2, 1) := by decide +kernel
theorem dX9_lowerReasonsAbove_15 : decode cX9_lowerReasonsAbove 15 = .ok (.iaload, 1) := by decide +kernel
theorem dX9_lowerReasonsAbove_16 : decode cX9_lowerReasonsAbove 16 = .ok (.iload_n 1, 1) := by decide +kernel
theorem dX9_lowerReasonsAbove_17 : decode cX9_lowerReasonsAbove 17 = .ok (.if_icmp .le 13, 3) := by decide +kernel
theorem dX9_lowerReasonsAbove_20 : decode cX9_lowerReasonsAbove 20 = .ok (.aload_n 0, 1) := by decide +kernel
theorem dX9_lowerReasonsAbove_21 : decode cX9_lowerReasonsAbove 21 = .ok (.getfield 18, 3) := by decide +kernel
theorem dX9_lowerReasonsAbove_24 : decode cX9_lowerReasonsAbove 24 = .ok (.iload_n 2, 1) := by decide +kernel
theorem dX9_lowerReasonsAbove_25 : decode cX9_lowerReasonsAbove 25 = .ok (.dup2, 1) := by decide +kernel
theorem dX9_lowerReasonsAbove_26 : decode cX9_lowerReasonsAbove 26 = .ok (.iaload, 1) := by decide +kernel
theorem dX9_lowerReasonsAbove_27 : decode cX9_lowerReasonsAbove 27 = .ok (.iconst 1, 1) := by decide +kernel
theorem dX9_lowerReasonsAbove_28 : decode cX9_lowerReasonsAbove 28 = .ok (.isub, 1) := by decide +kernel
theorem dX9_lowerReasonsAbove_29 : decode cX9_lowerReasonsAbove 29 = .ok (.iastore, 1) := by decide +kernel
theorem dX9_lowerReasonsAbove_30 : decode cX9_lowerReasonsAbove 30 = .ok (.iinc 2 1, 3) := by decide +kernel
theorem dX9_lowerReasonsAbove_33 : decode cX9_lowerReasonsAbove 33 = .ok (.goto (-31), 3) := by decide +kernel
theorem dX9_lowerReasonsAbove_36 : decode cX9_lowerReasonsAbove 36 = .ok (.return_, 1) := by decide +kernel
theorem dX9_copy_0 : decode cX9_copy 0 = .ok (.aload_n 0, 1) := by decide +kernel
theorem dX9_copy_1 : decode cX9_copy 1 = .ok (.aload_n 1, 1) := by decide +kernel
theorem dX9_copy_2 : decode cX9_copy 2 = .ok (.getfield 27, 3) := by decide +kernel
theorem dX9_copy_5 : decode cX9_copy 5 = .ok (.putfield 27, 3) := by decide +kernel
theorem dX9_copy_8 : decode cX9_copy 8 = .ok (.aload_n 1, 1) := by decide +kernel
theorem dX9_copy_9 : decode cX9_copy 9 = .ok (.getfield 9, 3) := by decide +kernel
theorem dX9_copy_12 : decode cX9_copy 12 = .ok (.iconst 0, 1) := by decide +kernel
theorem dX9_copy_13 : decode cX9_copy 13 = .ok (.aload_n 0, 1) := by decide +kernel
theorem dX9_copy_14 : decode cX9_copy 14 = .ok (.getfield 9, 3) := by decide +kernel
theorem dX9_copy_17 : decode cX9_copy 17 = .ok (.iconst 0, 1) := by decide +kernel
theorem dX9_copy_18 : decode cX9_copy 18 = .ok (.aload_n 0, 1) := by decide +kernel
theorem dX9_copy_19 : decode cX9_copy 19 = .ok (.getfield 27, 3) := by decide +kernel
theorem dX9_copy_22 : decode cX9_copy 22 = .ok (.invokestatic 56, 3) := by decide +kernel
theorem dX9_copy_25 : decode cX9_copy 25 = .ok (.aload_n 1, 1) := by decide +kernel
theorem dX9_copy_26 : decode cX9_copy 26 = .ok (.getfield 15, 3) := by decide +kernel
theorem dX9_copy_29 : decode cX9_copy 29 = .ok (.iconst 0, 1) := by decide +kernel
theorem dX9_copy_30 : decode cX9_copy 30 = .ok (.aload_n 0, 1) := by decide +kernel
theorem dX9_copy_31 : decode cX9_copy 31 = .ok (.getfield 15, 3) := by decide +kernel
theorem dX9_copy_34 : decode cX9_copy 34 = .ok (.iconst 0, 1) := by decide +kernel
theorem dX9_copy_35 : decode cX9_copy 35 = .ok (.aload_n 0, 1) := by decide +kernel
theorem dX9_copy_36 : decode cX9_copy 36 = .ok (.getfield 27, 3) := by decide +kernel
theorem dX9_copy_39 : decode cX9_copy 39 = .ok (.invokestatic 56, 3) := by decide +kernel
theorem dX9_copy_42 : decode cX9_copy 42 = .ok (.aload_n 1, 1) := by decide +kernel
theorem dX9_copy_43 : decode cX9_copy 43 = .ok (.getfield 18, 3) := by decide +kernel
theorem dX9_copy_46 : decode cX9_copy 46 = .ok (.iconst 0, 1) := by decide +kernel
theorem dX9_copy_47 : decode cX9_copy 47 = .ok (.aload_n 0, 1) := by decide +kernel
theorem dX9_copy_48 : decode cX9_copy 48 = .ok (.getfield 18, 3) := by decide +kernel
theorem dX9_copy_51 : decode cX9_copy 51 = .ok (.iconst 0, 1) := by decide +kernel
theorem dX9_copy_52 : decode cX9_copy 52 = .ok (.aload_n 0, 1) := by decide +kernel
theorem dX9_copy_53 : decode cX9_copy 53 = .ok (.getfield 27, 3) := by decide +kernel
theorem dX9_copy_56 : decode cX9_copy 56 = .ok (.invokestatic 56, 3) := by decide +kernel
theorem dX9_copy_59 : decode cX9_copy 59 = .ok (.aload_n 1, 1) := by decide +kernel
theorem dX9_copy_60 : decode cX9_copy 60 = .ok (.getfield 21, 3) := by decide +kernel
theorem dX9_copy_63 : decode cX9_copy 63 = .ok (.iconst 0, 1) := by decide +kernel
theorem dX9_copy_64 : decode cX9_copy 64 = .ok (.aload_n 0, 1) := by decide +kernel
theorem dX9_copy_65 : decode cX9_copy 65 = .ok (.getfield 21, 3) := by decide +kernel
theorem dX9_copy_68 : decode cX9_copy 68 = .ok (.iconst 0, 1) := by decide +kernel
theorem dX9_copy_69 : decode cX9_copy 69 = .ok (.iconst 4, 1) := by decide +kernel
theorem dX9_copy_70 : decode cX9_copy 70 = .ok (.invokestatic 56, 3) := by decide +kernel
theorem dX9_copy_73 : decode cX9_copy 73 = .ok (.aload_n 1, 1) := by decide +kernel
theorem dX9_copy_74 : decode cX9_copy 74 = .ok (.getfield 24, 3) := by decide +kernel
theorem dX9_copy_77 : decode cX9_copy 77 = .ok (.iconst 0, 1) := by decide +kernel
theorem dX9_copy_78 : decode cX9_copy 78 = .ok (.aload_n 0, 1) := by decide +kernel
theorem dX9_copy_79 : decode cX9_copy 79 = .ok (.getfield 24, 3) := by decide +kernel
theorem dX9_copy_82 : decode cX9_copy 82 = .ok (.iconst 0, 1) := by decide +kernel
theorem dX9_copy_83 : decode cX9_copy 83 = .ok (.iconst 4, 1) := by decide +kernel
theorem dX9_copy_84 : decode cX9_copy 84 = .ok (.invokestatic 56, 3) := by decide +kernel
theorem dX9_copy_87 : decode cX9_copy 87 = .ok (.return_, 1) := by decide +kernel
theorem dX10_init_0 : decode cX10_init 0 = .ok (.aload_n 0, 1) := by decide +kernel
theorem dX10_init_1 : decode cX10_init 1 = .ok (.invokespecial 3, 3) := by decide +kernel
theorem dX10_init_4 : decode cX10_init 4 = .ok (.aload_n 0, 1) := by decide +kernel
theorem dX10_init_5 : decode cX10_init 5 = .ok (.iconst 4, 1) := by decide +kernel
theorem dX10_init_6 : decode cX10_init 6 = .ok (.newarray .int, 2) := by decide +kernel
theorem dX10_init_8 : decode cX10_init 8 = .ok (.putfield 9, 3) := by decide +kernel
theorem dX10_init_11 : decode cX10_init 11 = .ok (.aload_n 0, 1) := by decide +kernel
theorem dX10_init_12 : decode cX10_init 12 = .ok (.iconst 4, 1) := by decide +kernel
theorem dX10_init_13 : decode cX10_init 13 = .ok (.newarray .int, 2) := by decide +kernel
theorem dX10_init_15 : decode cX10_init 15 = .ok (.putfield 15, 3) := by decide +kernel
theorem dX10_init_18 : decode cX10_init 18 = .ok (.aload_n 0, 1) := by decide +kernel
theorem dX10_init_19 : decode cX10_init 19 = .ok (.aload_n 1, 1) := by decide +kernel
theorem dX10_init_20 : decode cX10_init 20 = .ok (.putfield 18, 3) := by decide +kernel
theorem dX10_init_23 : decode cX10_init 23 = .ok (.return_, 1) := by decide +kernel
theorem dX10_all_0 : decode cX10_all 0 = .ok (.aload_n 0, 1) := by decide +kernel
theorem dX10_all_1 : decode cX10_all 1 = .ok (.invokevirtual 22, 3) := by decide +kernel
theorem dX10_all_4 : decode cX10_all 4 = .ok (.aload_n 0, 1) := by decide +kernel
theorem dX10_all_5 : decode cX10_all 5 = .ok (.invokevirtual 25, 3) := by decide +kernel
theorem dX10_all_8 : decode cX10_all 8 = .ok (.ireturn, 1) := by decide +kernel
theorem dX10_along_0 : decode cX10_along 0 = .ok (.iconst 0, 1) := by decide +kernel
theorem dX10_along_1 : decode cX10_along 1 = .ok (.istore_n 2, 1) := by decide +kernel
theorem dX10_along_2 : decode cX10_along 2 = .ok (.iload_n 2, 1) := by decide +kernel
theorem dX10_along_3 : decode cX10_along 3 = .ok (.iconst 4, 1) := by decide +kernel
theorem dX10_along_4 : decode cX10_along 4 = .ok (.if_icmp .ge 33, 3) := by decide +kernel
theorem dX10_along_7 : decode cX10_along 7 = .ok (.aload_n 0, 1) := by decide +kernel
theorem dX10_along_8 : decode cX10_along 8 = .ok (.getfield 9, 3) := by decide +kernel
theorem dX10_along_11 : decode cX10_along 11 = .ok (.iload_n 2, 1) := by decide +kernel
theorem dX10_along_12 : decode cX10_along 12 = .ok (.aload_n 1, 1) := by decide +kernel
theorem dX10_along_13 : decode cX10_along 13 = .ok (.getfield 29, 3) := by decide +kernel
theorem dX10_along_16 : decode cX10_along 16 = .ok (.iload_n 2, 1) := by decide +kernel
theorem dX10_along_17 : decode cX10_along 17 = .ok (.iaload, 1) := by decide +kernel
theorem dX10_along_18 : decode cX10_along 18 = .ok (.iastore, 1) := by decide +kernel
theorem dX10_along_19 : decode cX10_along 19 = .ok (.aload_n 0, 1) := by decide +kernel
theorem dX10_along_20 : decode cX10_along 20 = .ok (.getfield 15, 3) := by decide +kernel
theorem dX10_along_23 : decode cX10_along 23 = .ok (.iload_n 2, 1) := by decide +kernel
theorem dX10_along_24 : decode cX10_along 24 = .ok (.aload_n 1, 1) := by decide +kernel
theorem dX10_along_25 : decode cX10_along 25 = .ok (.getfield 34, 3) := by decide +kernel
theorem dX10_along_28 : decode cX10_along 28 = .ok (.iload_n 2, 1) := by decide +kernel
theorem dX10_along_29 : decode cX10_along 29 = .ok (.iaload, 1) := by decide +kernel
theorem dX10_along_30 : decode cX10_along 30 = .ok (.iastore, 1) := by decide +kernel
theorem dX10_along_31 : decode cX10_along 31 = .ok (.iinc 2 1, 3) := by decide +kernel
theorem dX10_along_34 : decode cX10_along 34 = .ok (.goto (-32), 3) := by decide +kernel
theorem dX10_along_37 : decode cX10_along 37 = .ok (.aload_n 0, 1) := by decide +kernel
theorem dX10_along_38 : decode cX10_along 38 = .ok (.invokevirtual 25, 3) := by decide +kernel
theorem dX10_along_41 : decode cX10_along 41 = .ok (.ireturn, 1) := by decide +kernel
theorem dX10_within_0 : decode cX10_within 0 = .ok (.aload_n 0, 1) := by decide +kernel
theorem dX10_within_1 : decode cX10_within 1 = .ok (.invokevirtual 22, 3) := by decide +kernel
theorem dX10_within_4 : decode cX10_within 4 = .ok (.iconst 0, 1) := by decide +kernel
theorem dX10_within_5 : decode cX10_within 5 = .ok (.istore_n 3, 1) := by decide +kernel
theorem dX10_within_6 : decode cX10_within 6 = .ok (.iload_n 3, 1) := by decide +kernel
theorem dX10_within_7 : decode cX10_within 7 = .ok (.aload_n 1, 1) := by decide +kernel
theorem dX10_within_8 : decode cX10_within 8 = .ok (.getfield 37, 3) := by decide +kernel
theorem dX10_within_11 : decode cX10_within 11 = .ok (.iload_n 2, 1) := by decide +kernel
theorem dX10_within_12 : decode cX10_within 12 = .ok (.iaload, 1) := by decide +kernel
theorem dX10_within_13 : decode cX10_within 13 = .ok (.if_icmp .ge 20, 3) := by decide +kernel
theorem dX10_within_16 : decode cX10_within 16 = .ok (.aload_n 0, 1) := by decide +kernel
theorem dX10_within_17 : decode cX10_within 17 = .ok (.aload_n 1, 1) := by decide +kernel
theorem dX10_within_18 : decode cX10_within 18 = .ok (.iload_n 2, 1) := by decide +kernel
theorem dX10_within_19 : decode cX10_within 19 = .ok (.iload_n 3, 1) := by decide +kernel
theorem dX10_within_20 : decode cX10_within 20 = .ok (.invokevirtual 42, 3) := by decide +kernel
theorem dX10_within_23 : decode cX10_within 23 = .ok (.iconst 1, 1) := by decide +kernel
theorem dX10_within_24 : decode cX10_within 24 = .ok (.invokevirtual 46, 3) := by decide +kernel
theorem dX10_within_27 : decode cX10_within 27 = .ok (.iinc 3 1, 3) := by decide +kernel
theorem dX10_within_30 : decode cX10_within 30 = .ok (.goto (-24), 3) := by decide +kernel
theorem dX10_within_33 : decode cX10_within 33 = .ok (.aload_n 0, 1) := by decide +kernel
theorem dX10_within_34 : decode cX10_within 34 = .ok (.invokevirtual 25, 3) := by decide +kernel
theorem dX10_within_37 : decode cX10_within 37 = .ok (.ireturn, 1) := by decide +kernel
theorem dX10_bySeen_0 : decode cX10_bySeen 0 = .ok (.aload_n 0, 1) := by decide +kernel
theorem dX10_bySeen_1 : decode cX10_bySeen 1 = .ok (.invokevirtual 22, 3) := by decide +kernel
theorem dX10_bySeen_4 : decode cX10_bySeen 4 = .ok (.iconst 0, 1) := by decide +kernel
theorem dX10_bySeen_5 : decode cX10_bySeen 5 = .ok (.istore_n 2, 1) := by decide +kernel
theorem dX10_bySeen_6 : decode cX10_bySeen 6 = .ok (.iload_n 2, 1) := by decide +kernel
theorem dX10_bySeen_7 : decode cX10_bySeen 7 = .ok (.aload_n 1, 1) := by decide +kernel
theorem dX10_bySeen_8 : decode cX10_bySeen 8 = .ok (.getfield 50, 3) := by decide +kernel
theorem dX10_bySeen_11 : decode cX10_bySeen 11 = .ok (.if_icmp .ge 44, 3) := by decide +kernel
theorem dX10_bySeen_14 : decode cX10_bySeen 14 = .ok (.aload_n 0, 1) := by decide +kernel
theorem dX10_bySeen_15 : decode cX10_bySeen 15 = .ok (.getfield 18, 3) := by decide +kernel
theorem dX10_bySeen_18 : decode cX10_bySeen 18 = .ok (.aload_n 1, 1) := by decide +kernel
theorem dX10_bySeen_19 : decode cX10_bySeen 19 = .ok (.getfield 56, 3) := by decide +kernel
theorem dX10_bySeen_22 : decode cX10_bySeen 22 = .ok (.iload_n 2, 1) := by decide +kernel
theorem dX10_bySeen_23 : decode cX10_bySeen 23 = .ok (.iaload, 1) := by decide +kernel
theorem dX10_bySeen_24 : decode cX10_bySeen 24 = .ok (.bipush 100, 2) := by decide +kernel
theorem dX10_bySeen_26 : decode cX10_bySeen 26 = .ok (.idiv, 1) := by decide +kernel
theorem dX10_bySeen_27 : decode cX10_bySeen 27 = .ok (.invokevirtual 59, 3) := by decide +kernel
theorem dX10_bySeen_30 : decode cX10_bySeen 30 = .ok (.ifCond .eq 19, 3) := by decide +kernel
theorem dX10_bySeen_33 : decode cX10_bySeen 33 = .ok (.aload_n 0, 1) := by decide +kernel
theorem dX10_bySeen_34 : decode cX10_bySeen 34 = .ok (.aload_n 1, 1) := by decide +kernel
theorem dX10_bySeen_35 : decode cX10_bySeen 35 = .ok (.getfield 56, 3) := by decide +kernel
theorem dX10_bySeen_38 : decode cX10_bySeen 38 = .ok (.iload_n 2, 1) := by decide +kernel
theorem dX10_bySeen_39 : decode cX10_bySeen 39 = .ok (.iaload, 1) := by decide +kernel
theorem dX10_bySeen_40 : decode cX10_bySeen 40 = .ok (.aload_n 1, 1) := by decide +kernel
theorem dX10_bySeen_41 : decode cX10_bySeen 41 = .ok (.getfield 65, 3) := by decide +kernel
theorem dX10_bySeen_44 : decode cX10_bySeen 44 = .ok (.iload_n 2, 1) := by decide +kernel
theorem dX10_bySeen_45 : decode cX10_bySeen 45 = .ok (.baload, 1) := by decide +kernel
theorem dX10_bySeen_46 : decode cX10_bySeen 46 = .ok (.invokevirtual 46, 3) := by decide +kernel
theorem dX10_bySeen_49 : decode cX10_bySeen 49 = .ok (.iinc 2 1, 3) := by decide +kernel
theorem dX10_bySeen_52 : decode cX10_bySeen 52 = .ok (.goto (-46), 3) := by decide +kernel
theorem dX10_bySeen_55 : decode cX10_bySeen 55 = .ok (.aload_n 0, 1) := by decide +kernel
theorem dX10_bySeen_56 : decode cX10_bySeen 56 = .ok (.invokevirtual 25, 3) := by decide +kernel
theorem dX10_bySeen_59 : decode cX10_bySeen 59 = .ok (.ireturn, 1) := by decide +kernel
theorem dX10_leastOfAll_0 : decode cX10_leastOfAll 0 = .ok (.aload_n 0, 1) := by decide +kernel
theorem dX10_leastOfAll_1 : decode cX10_leastOfAll 1 = .ok (.invokevirtual 22, 3) := by decide +kernel
theorem dX10_leastOfAll_4 : decode cX10_leastOfAll 4 = .ok (.iconst 0, 1) := by decide +kernel
theorem dX10_leastOfAll_5 : decode cX10_leastOfAll 5 = .ok (.istore_n 2, 1) := by decide +kernel
theorem dX10_leastOfAll_6 : decode cX10_leastOfAll 6 = .ok (.iload_n 2, 1) := by decide +kernel
theorem dX10_leastOfAll_7 : decode cX10_leastOfAll 7 = .ok (.aload_n 0, 1) := by decide +kernel
theorem dX10_leastOfAll_8 : decode cX10_leastOfAll 8 = .ok (.getfield 18, 3) := by decide +kernel
theorem dX10_leastOfAll_11 : decode cX10_leastOfAll 11 = .ok (.getfield 69, 3) := by decide +kernel
theorem dX10_leastOfAll_14 : decode cX10_leastOfAll 14 = .ok (.iload_n 1, 1) := by decide +kernel
theorem dX10_leastOfAll_15 : decode cX10_leastOfAll 15 = .ok (.iaload, 1) := by decide +kernel
theorem dX10_leastOfAll_16 : decode cX10_leastOfAll 16 = .ok (.if_icmp .gt 32, 3) := by decide +kernel
theorem dX10_leastOfAll_19 : decode cX10_leastOfAll 19 = .ok (.aload_n 0, 1) := by decide +kernel
theorem dX10_leastOfAll_20 : decode cX10_leastOfAll 20 = .ok (.getfield 9, 3) := by decide +kernel
theorem dX10_leastOfAll_23 : decode cX10_leastOfAll 23 = .ok (.iload_n 1, 1) := by decide +kernel
theorem dX10_leastOfAll_24 : decode cX10_leastOfAll 24 = .ok (.iload_n 2, 1) := by decide +kernel
theorem dX10_leastOfAll_25 : decode cX10_leastOfAll 25 = .ok (.iastore, 1) := by decide +kernel
theorem dX10_leastOfAll_26 : decode cX10_leastOfAll 26 = .ok (.aload_n 0, 1) := by decide +kernel
theorem dX10_leastOfAll_27 : decode cX10_leastOfAll 27 = .ok (.getfield 15, 3) := by decide +kernel
theorem dX10_leastOfAll_30 : decode cX10_leastOfAll 30 = .ok (.iload_n 1, 1) := by decide +kernel
theorem dX10_leastOfAll_31 : decode cX10_leastOfAll 31 = .ok (.iload_n 2, 1) := by decide +kernel
theorem dX10_leastOfAll_32 : decode cX10_leastOfAll 32 = .ok (.iastore, 1) := by decide +kernel
theorem dX10_leastOfAll_33 : decode cX10_leastOfAll 33 = .ok (.aload_n 0, 1) := by decide +kernel
theorem dX10_leastOfAll_34 : decode cX10_leastOfAll 34 = .ok (.invokevirtual 25, 3) := by decide +kernel
theorem dX10_leastOfAll_37 : decode cX10_leastOfAll 37 = .ok (.ifCond .le 5, 3) := by decide +kernel
theorem dX10_leastOfAll_40 : decode cX10_leastOfAll 40 = .ok (.iload_n 2, 1) := by decide +kernel
theorem dX10_leastOfAll_41 : decode cX10_leastOfAll 41 = .ok (.ireturn, 1) := by decide +kernel
theorem dX10_leastOfAll_42 : decode cX10_leastOfAll 42 = .ok (.iinc 2 1, 3) := by decide +kernel
theorem dX10_leastOfAll_45 : decode cX10_leastOfAll 45 = .ok (.goto (-39), 3) := by decide +kernel
theorem dX10_leastOfAll_48 : decode cX10_leastOfAll 48 = .ok (.bipush (-9), 2) := by decide +kernel
theorem dX10_leastOfAll_50 : decode cX10_leastOfAll 50 = .ok (.ireturn, 1) := by decide +kernel
theorem dX10_openBox_0 : decode cX10_openBox 0 = .ok (.iconst 0, 1) := by decide +kernel
theorem dX10_openBox_1 : decode cX10_openBox 1 = .ok (.istore_n 1, 1) := by decide +kernel
theorem dX10_openBox_2 : decode cX10_openBox 2 = .ok (.iload_n 1, 1) := by decide +kernel
theorem dX10_openBox_3 : decode cX10_openBox 3 = .ok (.iconst 4, 1) := by decide +kernel
theorem dX10_openBox_4 : decode cX10_openBox 4 = .ok (.if_icmp .ge 31, 3) := by decide +kernel
theorem dX10_openBox_7 : decode cX10_openBox 7 = .ok (.aload_n 0, 1) := by decide +kernel
theorem dX10_openBox_8 : decode cX10_openBox 8 = .ok (.getfield 9, 3) := by decide +kernel
theorem dX10_openBox_11 : decode cX10_openBox 11 = .ok (.iload_n 1, 1) := by decide +kernel
theorem dX10_openBox_12 : decode cX10_openBox 12 = .ok (.iconst 0, 1) := by decide +kernel
theorem dX10_openBox_13 : decode cX10_openBox 13 = .ok (.iastore, 1) := by decide +kernel
theorem dX10_openBox_14 : decode cX10_openBox 14 = .ok (.aload_n 0, 1) := by decide +kernel
theorem dX10_openBox_15 : decode cX10_openBox 15 = .ok (.getfield 15, 3) := by decide +kernel
theorem dX10_openBox_18 : decode cX10_openBox 18 = .ok (.iload_n 1, 1) := by decide +kernel
theorem dX10_openBox_19 : decode cX10_openBox 19 = .ok (.aload_n 0, 1) := by decide +kernel
theorem dX10_openBox_20 : decode cX10_openBox 20 = .ok (.getfield 18, 3) := by decide +kernel
theorem dX10_openBox_23 : decode cX10_openBox 23 = .ok (.getfield 69, 3) := by decide +kernel
theorem dX10_openBox_26 : decode cX10_openBox 26 = .ok (.iload_n 1, 1) := by decide +kernel
theorem dX10_openBox_27 : decode cX10_openBox 27 = .ok (.iaload, 1) := by decide +kernel
theorem dX10_openBox_28 : decode cX10_openBox 28 = .ok (.iastore, 1) := by decide +kernel
theorem dX10_openBox_29 : decode cX10_openBox 29 = .ok (.iinc 1 1, 3) := by decide +kernel
theorem dX10_openBox_32 : decode cX10_openBox 32 = .ok (.goto (-30), 3) := by decide +kernel
theorem dX10_openBox_35 : decode cX10_openBox 35 = .ok (.return_, 1) := by decide +kernel
theorem dX10_hold_0 : decode cX10_hold 0 = .ok (.iload_n 1, 1) := by decide +kernel
theorem dX10_hold_1 : decode cX10_hold 1 = .ok (.bipush 100, 2) := by decide +kernel
theorem dX10_hold_3 : decode cX10_hold 3 = .ok (.idiv, 1) := by decide +kernel
theorem dX10_hold_4 : decode cX10_hold 4 = .ok (.istore_n 3, 1) := by decide +kernel
theorem dX10_hold_5 : decode cX10_hold 5 = .ok (.iload_n 1, 1) := by decide +kernel
theorem dX10_hold_6 : decode cX10_hold 6 = .ok (.bipush 10, 2) := by decide +kernel
theorem dX10_hold_8 : decode cX10_hold 8 = .ok (.irem, 1) := by decide +kernel
theorem dX10_hold_9 : decode cX10_hold 9 = .ok (.istore 4, 2) := by decide +kernel
theorem dX10_hold_11 : decode cX10_hold 11 = .ok (.iload_n 1, 1) := by decide +kernel
theorem dX10_hold_12 : decode cX10_hold 12 = .ok (.bipush 10, 2) := by decide +kernel
theorem dX10_hold_14 : decode cX10_hold 14 = .ok (.idiv, 1) := by decide +kernel
theorem dX10_hold_15 : decode cX10_hold 15 = .ok (.bipush 10, 2) := by decide +kernel
theorem dX10_hold_17 : decode cX10_hold 17 = .ok (.irem, 1) := by decide +kernel
theorem dX10_hold_18 : decode cX10_hold 18 = .ok (.ifCond .ne 7, 3) := by decide +kernel
theorem dX10_hold_21 : decode cX10_hold 21 = .ok (.iconst 1, 1) := by decide +kernel
theorem dX10_hold_22 : decode cX10_hold 22 = .ok (.goto 4, 3) := by decide +kernel
theorem dX10_hold_25 : decode cX10_hold 25 = .ok (.iconst 0, 1) := by decide +kernel
theorem dX10_hold_26 : decode cX10_hold 26 = .ok (.istore 5, 2) := by decide +kernel
theorem dX10_hold_28 : decode cX10_hold 28 = .ok (.iload 5, 2) := by decide +kernel
theorem dX10_hold_30 : decode cX10_hold 30 = .ok (.ifCond .eq 27, 3) := by decide +kernel
theorem dX10_hold_33 : decode cX10_hold 33 = .ok (.iload_n 2, 1) := by decide +kernel
theorem dX10_hold_34 : decode cX10_hold 34 = .ok (.ifCond .eq 23, 3) := by decide +kernel
theorem dX10_hold_37 : decode cX10_hold 37 = .ok (.aload_n 0, 1) := by decide +kernel
theorem dX10_hold_38 : decode cX10_hold 38 = .ok (.getfield 9, 3) := by decide +kernel
theorem dX10_hold_41 : decode cX10_hold 41 = .ok (.iload_n 3, 1) := by decide +kernel
theorem dX10_hold_42 : decode cX10_hold 42 = .ok (.aload_n 0, 1) := by decide +kernel
theorem dX10_hold_43 : decode cX10_hold 43 = .ok (.getfield 9, 3) := by decide +kernel
theorem dX10_hold_46 : decode cX10_hold 46 = .ok (.iload_n 3, 1) := by decide +kernel
theorem dX10_hold_47 : decode cX10_hold 47 = .ok (.iaload, 1) := by decide +kernel
theorem dX10_hold_48 : decode cX10_hold 48 = .ok (.iload 4, 2) := by decide +kernel
theorem dX10_hold_50 : decode cX10_hold 50 = .ok (.invokestatic 72, 3) := by decide +kernel
theorem dX10_hold_53 : decode cX10_hold 53 = .ok (.iastore, 1) := by decide +kernel
theorem dX10_hold_54 : decode cX10_hold 54 = .ok (.goto 73, 3) := by decide +kernel
theorem dX10_hold_57 : decode cX10_hold 57 = .ok (.iload 5, 2) := by decide +kernel
theorem dX10_hold_59 : decode cX10_hold 59 = .ok (.ifCond .eq 25, 3) := by decide +kernel
theorem dX10_hold_62 : decode cX10_hold 62 = .ok (.aload_n 0, 1) := by decide +kernel
theorem dX10_hold_63 : decode cX10_hold 63 = .ok (.getfield 15, 3) := by decide +kernel
theorem dX10_hold_66 : decode cX10_hold 66 = .ok (.iload_n 3, 1) := by decide +kernel
theorem dX10_hold_67 : decode cX10_hold 67 = .ok (.aload_n 0, 1) := by decide +kernel
theorem dX10_hold_68 : decode cX10_hold 68 = .ok (.getfield 15, 3) := by decide +kernel
theorem dX10_hold_71 : decode cX10_hold 71 = .ok (.iload_n 3, 1) := by decide +kernel
theorem dX10_hold_72 : decode cX10_hold 72 = .ok (.iaload, 1) := by decide +kernel
theorem dX10_hold_73 : decode cX10_hold 73 = .ok (.iload 4, 2) := by decide +kernel
theorem dX10_hold_75 : decode cX10_hold 75 = .ok (.iconst 1, 1) := by decide +kernel
theorem dX10_hold_76 : decode cX10_hold 76 = .ok (.isub, 1) := by decide +kernel
theorem dX10_hold_77 : decode cX10_hold 77 = .ok (.invokestatic 77, 3) := by decide +kernel
theorem dX10_hold_80 : decode cX10_hold 80 = .ok (.iastore, 1) := by decide +kernel
theorem dX10_hold_81 : decode cX10_hold 81 = .ok (.goto 46, 3) := by decide +kernel
theorem dX10_hold_84 : decode cX10_hold 84 = .ok (.iload_n 2, 1) := by decide +kernel
theorem dX10_hold_85 : decode cX10_hold 85 = .ok (.ifCond .eq 23, 3) := by decide +kernel
theorem dX10_hold_88 : decode cX10_hold 88 = .ok (.aload_n 0, 1) := by decide +kernel
theorem dX10_hold_89 : decode cX10_hold 89 = .ok (.getfield 15, 3) := by decide +kernel
theorem dX10_hold_92 : decode cX10_hold 92 = .ok (.iload_n 3, 1) := by decide +kernel
theorem dX10_hold_93 : decode cX10_hold 93 = .ok (.aload_n 0, 1) := by decide +kernel
theorem dX10_hold_94 : decode cX10_hold 94 = .ok (.getfield 15, 3) := by decide +kernel
theorem dX10_hold_97 : decode cX10_hold 97 = .ok (.iload_n 3, 1) := by decide +kernel
theorem dX10_hold_98 : decode cX10_hold 98 = .ok (.iaload, 1) := by decide +kernel
theorem dX10_hold_99 : decode cX10_hold 99 = .ok (.iload 4, 2) := by decide +kernel
theorem dX10_hold_101 : decode cX10_hold 101 = .ok (.invokestatic 77, 3) := by decide +kernel
theorem dX10_hold_104 : decode cX10_hold 104 = .ok (.iastore, 1) := by decide +kernel
theorem dX10_hold_105 : decode cX10_hold 105 = .ok (.goto 22, 3) := by decide +kernel
theorem dX10_hold_108 : decode cX10_hold 108 = .ok (.aload_n 0, 1) := by decide +kernel
theorem dX10_hold_109 : decode cX10_hold 109 = .ok (.getfield 9, 3) := by decide +kernel
theorem dX10_hold_112 : decode cX10_hold 112 = .ok (.iload_n 3, 1) := by decide +kernel
theorem dX10_hold_113 : decode cX10_hold 113 = .ok (.aload_n 0, 1) := by decide +kernel
theorem dX10_hold_114 : decode cX10_hold 114 = .ok (.getfield 9, 3) := by decide +kernel
theorem dX10_hold_117 : decode cX10_hold 117 = .ok (.iload_n 3, 1) := by decide +kernel
theorem dX10_hold_118 : decode cX10_hold 118 = .ok (.iaload, 1) := by decide +kernel
theorem dX10_hold_119 : decode cX10_hold 119 = .ok (.iload 4, 2) := by decide +kernel
theorem dX10_hold_121 : decode cX10_hold 121 = .ok (.iconst 1, 1) := by decide +kernel
theorem dX10_hold_122 : decode cX10_hold 122 = .ok (.iadd, 1) := by decide +kernel
theorem dX10_hold_123 : decode cX10_hold 123 = .ok (.invokestatic 72, 3) := by decide +kernel
theorem dX10_hold_126 : decode cX10_hold 126 = .ok (.iastore, 1) := by decide +kernel
theorem dX10_hold_127 : decode cX10_hold 127 = .ok (.return_, 1) := by decide +kernel
theorem dX10_countInBox_0 : decode cX10_countInBox 0 = .ok (.iconst 0, 1) := by decide +kernel
theorem dX10_countInBox_1 : decode cX10_countInBox 1 = .ok (.istore_n 1, 1) := by decide +kernel
theorem dX10_countInBox_2 : decode cX10_countInBox 2 = .ok (.aload_n 0, 1) := by decide +kernel
theorem dX10_countInBox_3 : decode cX10_countInBox 3 = .ok (.getfield 9, 3) := by decide +kernel
theorem dX10_countInBox_6 : decode cX10_countInBox 6 = .ok (.iconst 0, 1) := by decide +kernel
theorem dX10_countInBox_7 : decode cX10_countInBox 7 = .ok (.iaload, 1) := by decide +kernel
theorem dX10_countInBox_8 : decode cX10_countInBox 8 = .ok (.istore_n 2, 1) := by decide +kernel
theorem dX10_countInBox_9 : decode cX10_countInBox 9 = .ok (.iload_n 2, 1) := by decide +kernel
theorem dX10_countInBox_10 : decode cX10_countInBox 10 = .ok (.aload_n 0, 1) := by decide +kernel
theorem dX10_countInBox_11 : decode cX10_countInBox 11 = .ok (.getfield 15, 3) := by decide +kernel
theorem dX10_countInBox_14 : decode cX10_countInBox 14 = .ok (.iconst 0, 1) := by decide +kernel
theorem dX10_countInBox_15 : decode cX10_countInBox 15 = .ok (.iaload, 1) := by decide +kernel
theorem dX10_countInBox_16 : decode cX10_countInBox 16 = .ok (.if_icmp .gt 68, 3) := by decide +kernel
theorem dX10_countInBox_19 : decode cX10_countInBox 19 = .ok (.aload_n 0, 1) := by decide +kernel
theorem dX10_countInBox_20 : decode cX10_countInBox 20 = .ok (.getfield 9, 3) := by decide +kernel
theorem dX10_countInBox_23 : decode cX10_countInBox 23 = .ok (.iconst 1, 1) := by decide +kernel
theorem dX10_countInBox_24 : decode cX10_countInBox 24 = .ok (.iaload, 1) := by decide +kernel
theorem dX10_countInBox_25 : decode cX10_countInBox 25 = .ok (.istore_n 3, 1) := by decide +kernel
theorem dX10_countInBox_26 : decode cX10_countInBox 26 = .ok (.iload_n 3, 1) := by decide +kernel
theorem dX10_countInBox_27 : decode cX10_countInBox 27 = .ok (.aload_n 0, 1) := by decide +kernel
theorem dX10_countInBox_28 : decode cX10_countInBox 28 = .ok (.getfield 15, 3) := by decide +kernel
theorem dX10_countInBox_31 : decode cX10_countInBox 31 = .ok (.iconst 1, 1) := by decide +kernel
theorem dX10_countInBox_32 : decode cX10_countInBox 32 = .ok (.iaload, 1) := by decide +kernel
theorem dX10_countInBox_33 : decode cX10_countInBox 33 = .ok (.if_icmp .gt 45, 3) := by decide +kernel
theorem dX10_countInBox_36 : decode cX10_countInBox 36 = .ok (.aload_n 0, 1) := by decide +kernel
theorem dX10_countInBox_37 : decode cX10_countInBox 37 = .ok (.getfield 9, 3) := by decide +kernel
theorem dX10_countInBox_40 : decode cX10_countInBox 40 = .ok (.iconst 2, 1) := by decide +kernel
theorem dX10_countInBox_41 : decode cX10_countInBox 41 = .ok (.iaload, 1) := by decide +kernel
theorem dX10_countInBox_42 : decode cX10_countInBox 42 = .ok (.istore 4, 2) := by decide +kernel
theorem dX10_countInBox_44 : decode cX10_countInBox 44 = .ok (.iload 4, 2) := by decide +kernel
theorem dX10_countInBox_46 : decode cX10_countInBox 46 = .ok (.aload_n 0, 1) := by decide +kernel
theorem dX10_countInBox_47 : decode cX10_countInBox 47 = .ok (.getfield 15, 3) := by decide +kernel
theorem dX10_countInBox_50 : decode cX10_countInBox 50 = .ok (.iconst 2, 1) := by decide +kernel
theorem dX10_countInBox_51 : decode cX10_countInBox 51 = .ok (.iaload, 1) := by decide +kernel
theorem dX10_countInBox_52 : decode cX10_countInBox 52 = .ok (.if_icmp .gt 20, 3) := by decide +kernel
theorem dX10_countInBox_55 : decode cX10_countInBox 55 = .ok (.iload_n 1, 1) := by decide +kernel
theorem dX10_countInBox_56 : decode cX10_countInBox 56 = .ok (.aload_n 0, 1) := by decide +kernel
theorem dX10_countInBox_57 : decode cX10_countInBox 57 = .ok (.iload_n 2, 1) := by decide +kernel
theorem dX10_countInBox_58 : decode cX10_countInBox 58 = .ok (.iload_n 3, 1) := by decide +kernel
theorem dX10_countInBox_59 : decode cX10_countInBox 59 = .ok (.iload 4, 2) := by decide +kernel
theorem dX10_countInBox_61 : decode cX10_countInBox 61 = .ok (.invokevirtual 80, 3) := by decide +kernel
theorem dX10_countInBox_64 : decode cX10_countInBox 64 = .ok (.iadd, 1) := by decide +kernel
theorem dX10_countInBox_65 : decode cX10_countInBox 65 = .ok (.istore_n 1, 1) := by decide +kernel
theorem dX10_countInBox_66 : decode cX10_countInBox 66 = .ok (.iinc 4 1, 3) := by decide +kernel
theorem dX10_countInBox_69 : decode cX10_countInBox 69 = .ok (.goto (-25), 3) := by decide +kernel
theorem dX10_countInBox_72 : decode cX10_countInBox 72 = .ok (.iinc 3 1, 3) := by decide +kernel
theorem dX10_countInBox_75 : decode cX10_countInBox 75 = .ok (.goto (-49), 3) := by decide +kernel
theorem dX10_countInBox_78 : decode cX10_countInBox 78 = .ok (.iinc 2 1, 3) := by decide +kernel
theorem dX10_countInBox_81 : decode cX10_countInBox 81 = .ok (.goto (-72), 3) := by decide +kernel
theorem dX10_countInBox_84 : decode cX10_countInBox 84 = .ok (.iload_n 1, 1) := by decide +kernel
theorem dX10_countInBox_85 : decode cX10_countInBox 85 = .ok (.ireturn, 1) := by decide +kernel
theorem dX10_countOfLast_0 : decode cX10_countOfLast 0 = .ok (.aload_n 0, 1) := by decide +kernel
theorem dX10_countOfLast_1 : decode cX10_countOfLast 1 = .ok (.getfield 9, 3) := by decide +kernel
theorem dX10_countOfLast_4 : decode cX10_countOfLast 4 = .ok (.iconst 3, 1) := by decide +kernel
theorem dX10_countOfLast_5 : decode cX10_countOfLast 5 = .ok (.iaload, 1) := by decide +kernel
theorem dX10_countOfLast_6 : decode cX10_countOfLast 6 = .ok (.istore 4, 2) := by decide +kernel
theorem dX10_countOfLast_8 : decode cX10_countOfLast 8 = .ok (.aload_n 0, 1) := by decide +kernel
theorem dX10_countOfLast_9 : decode cX10_countOfLast 9 = .ok (.getfield 15, 3) := by decide +kernel
theorem dX10_countOfLast_12 : decode cX10_countOfLast 12 = .ok (.iconst 3, 1) := by decide +kernel
theorem dX10_countOfLast_13 : decode cX10_countOfLast 13 = .ok (.iaload, 1) := by decide +kernel
theorem dX10_countOfLast_14 : decode cX10_countOfLast 14 = .ok (.istore 5, 2) := by decide +kernel
theorem dX10_countOfLast_16 : decode cX10_countOfLast 16 = .ok (.iconst 0, 1) := by decide +kernel
theorem dX10_countOfLast_17 : decode cX10_countOfLast 17 = .ok (.istore 6, 2) := by decide +kernel
theorem dX10_countOfLast_19 : decode cX10_countOfLast 19 = .ok (.iload 6, 2) := by decide +kernel
theorem dX10_countOfLast_21 : decode cX10_countOfLast 21 = .ok (.aload_n 0, 1) := by decide +kernel
theorem dX10_countOfLast_22 : decode cX10_countOfLast 22 = .ok (.getfield 18, 3) := by decide +kernel
theorem dX10_countOfLast_25 : decode cX10_countOfLast 25 = .ok (.getfield 84, 3) := by decide +kernel
theorem dX10_countOfLast_28 : decode cX10_countOfLast 28 = .ok (.if_icmp .ge 115, 3) := by decide +kernel
theorem dX10_countOfLast_31 : decode cX10_countOfLast 31 = .ok (.aload_n 0, 1) := by decide +kernel
theorem dX10_countOfLast_32 : decode cX10_countOfLast 32 = .ok (.getfield 18, 3) := by decide +kernel
theorem dX10_countOfLast_35 : decode cX10_countOfLast 35 = .ok (.getfield 87, 3) := by decide +kernel
theorem dX10_countOfLast_38 : decode cX10_countOfLast 38 = .ok (.iload 6, 2) := by decide +kernel
theorem dX10_countOfLast_40 : decode cX10_countOfLast 40 = .ok (.aaload, 1) := by decide +kernel
theorem dX10_countOfLast_41 : decode cX10_countOfLast 41 = .ok (.astore 7, 2) := by decide +kernel
theorem dX10_countOfLast_43 : decode cX10_countOfLast 43 = .ok (.aload_n 0, 1) := by decide +kernel
theorem dX10_countOfLast_44 : decode cX10_countOfLast 44 = .ok (.getfield 18, 3) := by decide +kernel
theorem dX10_countOfLast_47 : decode cX10_countOfLast 47 = .ok (.getfield 91, 3) := by decide +kernel
theorem dX10_countOfLast_50 : decode cX10_countOfLast 50 = .ok (.iload 6, 2) := by decide +kernel
theorem dX10_countOfLast_52 : decode cX10_countOfLast 52 = .ok (.iaload, 1) := by decide +kernel
theorem dX10_countOfLast_53 : decode cX10_countOfLast 53 = .ok (.aload 7, 2) := by decide +kernel
theorem dX10_countOfLast_55 : decode cX10_countOfLast 55 = .ok (.iconst 0, 1) := by decide +kernel
theorem dX10_countOfLast_56 : decode cX10_countOfLast 56 = .ok (.iaload, 1) := by decide +kernel
theorem dX10_countOfLast_57 : decode cX10_countOfLast 57 = .ok (.iload_n 1, 1) := by decide +kernel
theorem dX10_countOfLast_58 : decode cX10_countOfLast 58 = .ok (.imul, 1) := by decide +kernel
theorem dX10_countOfLast_59 : decode cX10_countOfLast 59 = .ok (.isub, 1) := by decide +kernel
theorem dX10_countOfLast_60 : decode cX10_countOfLast 60 = .ok (.aload 7, 2) := by decide +kernel
theorem dX10_countOfLast_62 : decode cX10_countOfLast 62 = .ok (.iconst 1, 1) := by decide +kernel
theorem dX10_countOfLast_63 : decode cX10_countOfLast 63 = .ok (.iaload, 1) := by decide +kernel
theorem dX10_countOfLast_64 : decode cX10_countOfLast 64 = .ok (.iload_n 2, 1) := by decide +kernel
theorem dX10_countOfLast_65 : decode cX10_countOfLast 65 = .ok (.imul, 1) := by decide +kernel
theorem dX10_countOfLast_66 : decode cX10_countOfLast 66 = .ok (.isub, 1) := by decide +kernel
theorem dX10_countOfLast_67 : decode cX10_countOfLast 67 = .ok (.aload 7, 2) := by decide +kernel
theorem dX10_countOfLast_69 : decode cX10_countOfLast 69 = .ok (.iconst 2, 1) := by decide +kernel
theorem dX10_countOfLast_70 : decode cX10_countOfLast 70 = .ok (.iaload, 1) := by decide +kernel
theorem dX10_countOfLast_71 : decode cX10_countOfLast 71 = .ok (.iload_n 3, 1) := by decide +kernel
theorem dX10_countOfLast_72 : decode cX10_countOfLast 72 = .ok (.imul, 1) := by decide +kernel
theorem dX10_countOfLast_73 : decode cX10_countOfLast 73 = .ok (.isub, 1) := by decide +kernel
theorem dX10_countOfLast_74 : decode cX10_countOfLast 74 = .ok (.istore 8, 2) := by decide +kernel
theorem dX10_countOfLast_76 : decode cX10_countOfLast 76 = .ok (.aload 7, 2) := by decide +kernel
theorem dX10_countOfLast_78 : decode cX10_countOfLast 78 = .ok (.iconst 3, 1) := by decide +kernel
theorem dX10_countOfLast_79 : decode cX10_countOfLast 79 = .ok (.iaload, 1) := by decide +kernel
theorem dX10_countOfLast_80 : decode cX10_countOfLast 80 = .ok (.ifCond .le 22, 3) := by decide +kernel
theorem dX10_countOfLast_83 : decode cX10_countOfLast 83 = .ok (.iload 5, 2) := by decide +kernel
theorem dX10_countOfLast_85 : decode cX10_countOfLast 85 = .ok (.iload 8, 2) := by decide +kernel
theorem dX10_countOfLast_87 : decode cX10_countOfLast 87 = .ok (.aload 7, 2) := by decide +kernel
theorem dX10_countOfLast_89 : decode cX10_countOfLast 89 = .ok (.iconst 3, 1) := by decide +kernel
theorem dX10_countOfLast_90 : decode cX10_countOfLast 90 = .ok (.iaload, 1) := by decide +kernel
theorem dX10_countOfLast_91 : decode cX10_countOfLast 91 = .ok (.invokestatic 94, 3) := by decide +kernel
theorem dX10_countOfLast_94 : decode cX10_countOfLast 94 = .ok (.invokestatic 77, 3) := by decide +kernel
theorem dX10_countOfLast_97 : decode cX10_countOfLast 97 = .ok (.istore 5, 2) := by decide +kernel
theorem dX10_countOfLast_99 : decode cX10_countOfLast 99 = .ok (.goto 38, 3) := by decide +kernel
theorem dX10_countOfLast_102 : decode cX10_countOfLast 102 = .ok (.aload 7, 2) := by decide +kernel
theorem dX10_countOfLast_104 : decode cX10_countOfLast 104 = .ok (.iconst 3, 1) := by decide +kernel
theorem dX10_countOfLast_105 : decode cX10_countOfLast 105 = .ok (.iaload, 1) := by decide +kernel
theorem dX10_countOfLast_106 : decode cX10_countOfLast 106 = .ok (.ifCond .ge 24, 3) := by decide +kernel
theorem dX10_countOfLast_109 : decode cX10_countOfLast 109 = .ok (.iload 4, 2) := by decide +kernel
theorem dX10_countOfLast_111 : decode cX10_countOfLast 111 = .ok (.iload 8, 2) := by decide +kernel
theorem dX10_countOfLast_113 : decode cX10_countOfLast 113 = .ok (.aload 7, 2) := by decide +kernel
theorem dX10_countOfLast_115 : decode cX10_countOfLast 115 = .ok (.iconst 3, 1) := by decide +kernel
theorem dX10_countOfLast_116 : decode cX10_countOfLast 116 = .ok (.iaload, 1) := by decide +kernel
theorem dX10_countOfLast_117 : decode cX10_countOfLast 117 = .ok (.ineg, 1) := by decide +kernel
theorem dX10_countOfLast_118 : decode cX10_countOfLast 118 = .ok (.invokestatic 94, 3) := by decide +kernel
theorem dX10_countOfLast_121 : decode cX10_countOfLast 121 = .ok (.ineg, 1) := by decide +kernel
theorem dX10_countOfLast_122 : decode cX10_countOfLast 122 = .ok (.invokestatic 72, 3) := by decide +kernel
theorem dX10_countOfLast_125 : decode cX10_countOfLast 125 = .ok (.istore 4, 2) := by decide +kernel
theorem dX10_countOfLast_127 : decode cX10_countOfLast 127 = .ok (.goto 10, 3) := by decide +kernel
theorem dX10_countOfLast_130 : decode cX10_countOfLast 130 = .ok (.iload 8, 2) := by decide +kernel
theorem dX10_countOfLast_132 : decode cX10_countOfLast 132 = .ok (.ifCond .ge 5, 3) := by decide +kernel
theorem dX10_countOfLast_135 : decode cX10_countOfLast 135 = .ok (.iconst 0, 1) := by decide +kernel
theorem dX10_countOfLast_136 : decode cX10_countOfLast 136 = .ok (.ireturn, 1) := by decide +kernel
theorem dX10_countOfLast_137 : decode cX10_countOfLast 137 = .ok (.iinc 6 1, 3) := by decide +kernel
theorem dX10_countOfLast_140 : decode cX10_countOfLast 140 = .ok (.goto (-121), 3) := by decide +kernel
theorem dX10_countOfLast_143 : decode cX10_countOfLast 143 = .ok (.iconst 0, 1) := by decide +kernel
theorem dX10_countOfLast_144 : decode cX10_countOfLast 144 = .ok (.iload 5, 2) := by decide +kernel
theorem dX10_countOfLast_146 : decode cX10_countOfLast 146 = .ok (.iload 4, 2) := by decide +kernel
theorem dX10_countOfLast_148 : decode cX10_countOfLast 148 = .ok (.isub, 1) := by decide +kernel
theorem dX10_countOfLast_149 : decode cX10_countOfLast 149 = .ok (.iconst 1, 1) := by decide +kernel
theorem dX10_countOfLast_150 : decode cX10_countOfLast 150 = .ok (.iadd, 1) := by decide +kernel
theorem dX10_countOfLast_151 : decode cX10_countOfLast 151 = .ok (.invokestatic 72, 3) := by decide +kernel
theorem dX10_countOfLast_154 : decode cX10_countOfLast 154 = .ok (.ireturn, 1) := by decide +kernel
theorem dX11_init_0 : decode cX11_init 0 = .ok (.aload_n 0, 1) := by decide +kernel
theorem dX11_init_1 : decode cX11_init 1 = .ok (.invokespecial 3, 3) := by decide +kernel
theorem dX11_init_4 : decode cX11_init 4 = .ok (.aload_n 0, 1) := by decide +kernel
theorem dX11_init_5 : decode cX11_init 5 = .ok (.new 9, 3) := by decide +kernel
theorem dX11_init_8 : decode cX11_init 8 = .ok (.dup, 1) := by decide +kernel
theorem dX11_init_9 : decode cX11_init 9 = .ok (.invokespecial 11, 3) := by decide +kernel
theorem dX11_init_12 : decode cX11_init 12 = .ok (.putfield 12, 3) := by decide +kernel
theorem dX11_init_15 : decode cX11_init 15 = .ok (.aload_n 0, 1) := by decide +kernel
theorem dX11_init_16 : decode cX11_init 16 = .ok (.new 16, 3) := by decide +kernel
theorem dX11_init_19 : decode cX11_init 19 = .ok (.dup, 1) := by decide +kernel
theorem dX11_init_20 : decode cX11_init 20 = .ok (.invokespecial 18, 3) := by decide +kernel
theorem dX11_init_23 : decode cX11_init 23 = .ok (.putfield 19, 3) := by decide +kernel
theorem dX11_init_26 : decode cX11_init 26 = .ok (.aload_n 0, 1) := by decide +kernel
theorem dX11_init_27 : decode cX11_init 27 = .ok (.new 23, 3) := by decide +kernel
theorem dX11_init_30 : decode cX11_init 30 = .ok (.dup, 1) := by decide +kernel
theorem dX11_init_31 : decode cX11_init 31 = .ok (.aload_n 0, 1) := by decide +kernel
theorem dX11_init_32 : decode cX11_init 32 = .ok (.getfield 12, 3) := by decide +kernel
theorem dX11_init_35 : decode cX11_init 35 = .ok (.invokespecial 25, 3) := by decide +kernel
theorem dX11_init_38 : decode cX11_init 38 = .ok (.putfield 28, 3) := by decide +kernel
theorem dX11_init_41 : decode cX11_init 41 = .ok (.aload_n 0, 1) := by decide +kernel
theorem dX11_init_42 : decode cX11_init 42 = .ok (.new 23, 3) := by decide +kernel
theorem dX11_init_45 : decode cX11_init 45 = .ok (.dup, 1) := by decide +kernel
theorem dX11_init_46 : decode cX11_init 46 = .ok (.aload_n 0, 1) := by decide +kernel
theorem dX11_init_47 : decode cX11_init 47 = .ok (.getfield 12, 3) := by decide +kernel
theorem dX11_init_50 : decode cX11_init 50 = .ok (.invokespecial 25, 3) := by decide +kernel
theorem dX11_init_53 : decode cX11_init 53 = .ok (.putfield 32, 3) := by decide +kernel
theorem dX11_init_56 : decode cX11_init 56 = .ok (.aload_n 0, 1) := by decide +kernel
theorem dX11_init_57 : decode cX11_init 57 = .ok (.new 35, 3) := by decide +kernel
theorem dX11_init_60 : decode cX11_init 60 = .ok (.dup, 1) := by decide +kernel
theorem dX11_init_61 : decode cX11_init 61 = .ok (.invokespecial 37, 3) := by decide +kernel
theorem dX11_init_64 : decode cX11_init 64 = .ok (.putfield 38, 3) := by decide +kernel
theorem dX11_init_67 : decode cX11_init 67 = .ok (.aload_n 0, 1) := by decide +kernel
theorem dX11_init_68 : decode cX11_init 68 = .ok (.new 42, 3) := by decide +kernel
theorem dX11_init_71 : decode cX11_init 71 = .ok (.dup, 1) := by decide +kernel
theorem dX11_init_72 : decode cX11_init 72 = .ok (.aload_n 0, 1) := by decide +kernel
theorem dX11_init_73 : decode cX11_init 73 = .ok (.getfield 12, 3) := by decide +kernel
theorem dX11_init_76 : decode cX11_init 76 = .ok (.invokespecial 44, 3) := by decide +kernel
theorem dX11_init_79 : decode cX11_init 79 = .ok (.putfield 45, 3) := by decide +kernel
theorem dX11_init_82 : decode cX11_init 82 = .ok (.aload_n 0, 1) := by decide +kernel
theorem dX11_init_83 : decode cX11_init 83 = .ok (.new 49, 3) := by decide +kernel
theorem dX11_init_86 : decode cX11_init 86 = .ok (.dup, 1) := by decide +kernel
theorem dX11_init_87 : decode cX11_init 87 = .ok (.aload_n 0, 1) := by decide +kernel
theorem dX11_init_88 : decode cX11_init 88 = .ok (.getfield 12, 3) := by decide +kernel
theorem dX11_init_91 : decode cX11_init 91 = .ok (.invokespecial 51, 3) := by decide +kernel
theorem dX11_init_94 : decode cX11_init 94 = .ok (.putfield 52, 3) := by decide +kernel
theorem dX11_init_97 : decode cX11_init 97 = .ok (.aload_n 0, 1) := by decide +kernel
theorem dX11_init_98 : decode cX11_init 98 = .ok (.new 56, 3) := by decide +kernel
theorem dX11_init_101 : decode cX11_init 101 = .ok (.dup, 1) := by decide +kernel
theorem dX11_init_102 : decode cX11_init 102 = .ok (.invokespecial 58, 3) := by decide +kernel
theorem dX11_init_105 : decode cX11_init 105 = .ok (.putfield 59, 3) := by decide +kernel
theorem dX11_init_108 : decode cX11_init 108 = .ok (.aload_n 0, 1) := by decide +kernel
theorem dX11_init_109 : decode cX11_init 109 = .ok (.new 63, 3) := by decide +kernel
theorem dX11_init_112 : decode cX11_init 112 = .ok (.dup, 1) := by decide +kernel
theorem dX11_init_113 : decode cX11_init 113 = .ok (.aload_n 0, 1) := by decide +kernel
theorem dX11_init_114 : decode cX11_init 114 = .ok (.getfield 12, 3) := by decide +kernel
theorem dX11_init_117 : decode cX11_init 117 = .ok (.invokespecial 65, 3) := by decide +kernel
theorem dX11_init_120 : decode cX11_init 120 = .ok (.putfield 66, 3) := by decide +kernel
theorem dX11_init_123 : decode cX11_init 123 = .ok (.aload_n 0, 1) := by decide +kernel
theorem dX11_init_124 : decode cX11_init 124 = .ok (.new 70, 3) := by decide +kernel
theorem dX11_init_127 : decode cX11_init 127 = .ok (.dup, 1) := by decide +kernel
theorem dX11_init_128 : decode cX11_init 128 = .ok (.aload_n 0, 1) := by decide +kernel
theorem dX11_init_129 : decode cX11_init 129 = .ok (.getfield 12, 3) := by decide +kernel
theorem dX11_init_132 : decode cX11_init 132 = .ok (.invokespecial 72, 3) := by decide +kernel
theorem dX11_init_135 : decode cX11_init 135 = .ok (.putfield 73, 3) := by decide +kernel
theorem dX11_init_138 : decode cX11_init 138 = .ok (.aload_n 0, 1) := by decide +kernel
theorem dX11_init_139 : decode cX11_init 139 = .ok (.lconst 0, 1) := by decide +kernel
theorem dX11_init_140 : decode cX11_init 140 = .ok (.putfield 77, 3) := by decide +kernel
theorem dX11_init_143 : decode cX11_init 143 = .ok (.return_, 1) := by decide +kernel
theorem dX11_write_0 : decode cX11_write 0 = .ok (.iload_n 1, 1) := by decide +kernel
theorem dX11_write_1 : decode cX11_write 1 = .ok (.ifCond .lt 10, 3) := by decide +kernel
theorem dX11_write_4 : decode cX11_write 4 = .ok (.iload_n 1, 1) := by decide +kernel
theorem dX11_write_5 : decode cX11_write 5 = .ok (.sipush 255, 3) := by decide +kernel
theorem dX11_write_8 : decode cX11_write 8 = .ok (.if_icmp .le 6, 3) := by decide +kernel
theorem dX11_write_11 : decode cX11_write 11 = .ok (.bipush (-2), 2) := by decide +kernel
theorem dX11_write_13 : decode cX11_write 13 = .ok (.ireturn, 1) := by decide +kernel
theorem dX11_write_14 : decode cX11_write 14 = .ok (.aload_n 0, 1) := by decide +kernel
theorem dX11_write_15 : decode cX11_write 15 = .ok (.getfield 19, 3) := by decide +kernel
theorem dX11_write_18 : decode cX11_write 18 = .ok (.getfield 81, 3) := by decide +kernel
theorem dX11_write_21 : decode cX11_write 21 = .ok (.bipush 60, 2) := by decide +kernel
theorem dX11_write_23 : decode cX11_write 23 = .ok (.if_icmp .lt 6, 3) := by decide +kernel
theorem dX11_write_26 : decode cX11_write 26 = .ok (.bipush (-4), 2) := by decide +kernel
theorem dX11_write_28 : decode cX11_write 28 = .ok (.ireturn, 1) := by decide +kernel
theorem dX11_write_29 : decode cX11_write 29 = .ok (.aload_n 0, 1) := by decide +kernel
theorem dX11_write_30 : decode cX11_write 30 = .ok (.getfield 19, 3) := by decide +kernel
theorem dX11_write_33 : decode cX11_write 33 = .ok (.iload_n 1, 1) := by decide +kernel
theorem dX11_write_34 : decode cX11_write 34 = .ok (.invokevirtual 85, 3) := by decide +kernel
theorem dX11_write_37 : decode cX11_write 37 = .ok (.aload_n 0, 1) := by decide +kernel
theorem dX11_write_38 : decode cX11_write 38 = .ok (.getfield 19, 3) := by decide +kernel
theorem dX11_write_41 : decode cX11_write 41 = .ok (.getfield 81, 3) := by decide +kernel
theorem dX11_write_44 : decode cX11_write 44 = .ok (.ireturn, 1) := by decide +kernel
theorem dX11_wipe_0 : decode cX11_wipe 0 = .ok (.aload_n 0, 1) := by decide +kernel
theorem dX11_wipe_1 : decode cX11_wipe 1 = .ok (.getfield 19, 3) := by decide +kernel
theorem dX11_wipe_4 : decode cX11_wipe 4 = .ok (.getfield 81, 3) := by decide +kernel
theorem dX11_wipe_7 : decode cX11_wipe 7 = .ok (.istore_n 1, 1) := by decide +kernel
theorem dX11_wipe_8 : decode cX11_wipe 8 = .ok (.aload_n 0, 1) := by decide +kernel
theorem dX11_wipe_9 : decode cX11_wipe 9 = .ok (.getfield 19, 3) := by decide +kernel
theorem dX11_wipe_12 : decode cX11_wipe 12 = .ok (.iconst 0, 1) := by decide +kernel
theorem dX11_wipe_13 : decode cX11_wipe 13 = .ok (.putfield 81, 3) := by decide +kernel
theorem dX11_wipe_16 : decode cX11_wipe 16 = .ok (.iload_n 1, 1) := by decide +kernel
theorem dX11_wipe_17 : decode cX11_wipe 17 = .ok (.ireturn, 1) := by decide +kernel
theorem dX11_fault_0 : decode cX11_fault 0 = .ok (.aload_n 0, 1) := by decide +kernel
theorem dX11_fault_1 : decode cX11_fault 1 = .ok (.getfield 19, 3) := by decide +kernel
theorem dX11_fault_4 : decode cX11_fault 4 = .ok (.invokevirtual 89, 3) := by decide +kernel
theorem dX11_fault_7 : decode cX11_fault 7 = .ok (.ireturn, 1) := by decide +kernel
theorem dX11_task_0 : decode cX11_task 0 = .ok (.aload_n 0, 1) := by decide +kernel
theorem dX11_task_1 : decode cX11_task 1 = .ok (.getfield 19, 3) := by decide +kernel
theorem dX11_task_4 : decode cX11_task 4 = .ok (.invokevirtual 89, 3) := by decide +kernel
theorem dX11_task_7 : decode cX11_task 7 = .ok (.bipush (-9), 2) := by decide +kernel
theorem dX11_task_9 : decode cX11_task 9 = .ok (.if_icmp .eq 6, 3) := by decide +kernel
theorem dX11_task_12 : decode cX11_task 12 = .ok (.bipush (-3), 2) := by decide +kernel
theorem dX11_task_14 : decode cX11_task 14 = .ok (.ireturn, 1) := by decide +kernel
theorem dX11_task_15 : decode cX11_task 15 = .ok (.aload_n 0, 1) := by decide +kernel
theorem dX11_task_16 : decode cX11_task 16 = .ok (.getfield 19, 3) := by decide +kernel
theorem dX11_task_19 : decode cX11_task 19 = .ok (.aload_n 0, 1) := by decide +kernel
theorem dX11_task_20 : decode cX11_task 20 = .ok (.getfield 12, 3) := by decide +kernel
theorem dX11_task_23 : decode cX11_task 23 = .ok (.invokevirtual 93, 3) := by decide +kernel
theorem dX11_task_26 : decode cX11_task 26 = .ok (.aload_n 0, 1) := by decide +kernel
theorem dX11_task_27 : decode cX11_task 27 = .ok (.getfield 73, 3) := by decide +kernel
theorem dX11_task_30 : decode cX11_task 30 = .ok (.iconst 0, 1) := by decide +kernel
theorem dX11_task_31 : decode cX11_task 31 = .ok (.putfield 96, 3) := by decide +kernel
theorem dX11_task_34 : decode cX11_task 34 = .ok (.aload_n 0, 1) := by decide +kernel
theorem dX11_task_35 : decode cX11_task 35 = .ok (.getfield 45, 3) := by decide +kernel
theorem dX11_task_38 : decode cX11_task 38 = .ok (.iconst 0, 1) := by decide +kernel
theorem dX11_task_39 : decode cX11_task 39 = .ok (.putfield 100, 3) := by decide +kernel
theorem dX11_task_42 : decode cX11_task 42 = .ok (.aload_n 0, 1) := by decide +kernel
theorem dX11_task_43 : decode cX11_task 43 = .ok (.getfield 52, 3) := by decide +kernel
theorem dX11_task_46 : decode cX11_task 46 = .ok (.invokevirtual 103, 3) := by decide +kernel
theorem dX11_task_49 : decode cX11_task 49 = .ok (.aload_n 0, 1) := by decide +kernel
theorem dX11_task_50 : decode cX11_task 50 = .ok (.getfield 28, 3) := by decide +kernel
theorem dX11_task_53 : decode cX11_task 53 = .ok (.invokevirtual 106, 3) := by decide +kernel
theorem dX11_task_56 : decode cX11_task 56 = .ok (.aload_n 0, 1) := by decide +kernel
theorem dX11_task_57 : decode cX11_task 57 = .ok (.getfield 12, 3) := by decide +kernel
theorem dX11_task_60 : decode cX11_task 60 = .ok (.getfield 109, 3) := by decide +kernel
theorem dX11_task_63 : decode cX11_task 63 = .ok (.ireturn, 1) := by decide +kernel
theorem dX11_about_0 : decode cX11_about 0 = .ok (.iload_n 1, 1) := by decide +kernel
theorem dX11_about_1 : decode cX11_about 1 = .ok (.tableswitch 203 0 12 #[67, 75, 83, 94, 105, 113, 124, 140, 156, 164, 179, 187, 195], 67) := by decide +kernel
theorem dX11_about_68 : decode cX11_about 68 = .ok (.aload_n 0, 1) := by decide +kernel
theorem dX11_about_69 : decode cX11_about 69 = .ok (.getfield 12, 3) := by decide +kernel
theorem dX11_about_72 : decode cX11_about 72 = .ok (.getfield 112, 3) := by decide +kernel
theorem dX11_about_75 : decode cX11_about 75 = .ok (.ireturn, 1) := by decide +kernel
theorem dX11_about_76 : decode cX11_about 76 = .ok (.aload_n 0, 1) := by decide +kernel
theorem dX11_about_77 : decode cX11_about 77 = .ok (.getfield 12, 3) := by decide +kernel
theorem dX11_about_80 : decode cX11_about 80 = .ok (.getfield 109, 3) := by decide +kernel
theorem dX11_about_83 : decode cX11_about 83 = .ok (.ireturn, 1) := by decide +kernel
theorem dX11_about_84 : decode cX11_about 84 = .ok (.aload_n 0, 1) := by decide +kernel
theorem dX11_about_85 : decode cX11_about 85 = .ok (.getfield 28, 3) := by decide +kernel
theorem dX11_about_88 : decode cX11_about 88 = .ok (.getfield 115, 3) := by decide +kernel
theorem dX11_about_91 : decode cX11_about 91 = .ok (.getfield 119, 3) := by decide +kernel
theorem dX11_about_94 : decode cX11_about 94 = .ok (.ireturn, 1) := by decide +kernel
theorem dX11_about_95 : decode cX11_about 95 = .ok (.aload_n 0, 1) := by decide +kernel
theorem dX11_about_96 : decode cX11_about 96 = .ok (.getfield 28, 3) := by decide +kernel
theorem dX11_about_99 : decode cX11_about 99 = .ok (.getfield 115, 3) := by decide +kernel
theorem dX11_about_102 : decode cX11_about 102 = .ok (.invokevirtual 124, 3) := by decide +kernel
theorem dX11_about_105 : decode cX11_about 105 = .ok (.ireturn, 1) := by decide +kernel
theorem dX11_about_106 : decode cX11_about 106 = .ok (.aload_n 0, 1) := by decide +kernel
theorem dX11_about_107 : decode cX11_about 107 = .ok (.getfield 28, 3) := by decide +kernel
theorem dX11_about_110 : decode cX11_about 110 = .ok (.invokevirtual 127, 3) := by decide +kernel
theorem dX11_about_113 : decode cX11_about 113 = .ok (.ireturn, 1) := by decide +kernel
theorem dX11_about_114 : decode cX11_about 114 = .ok (.aload_n 0, 1) := by decide +kernel
theorem dX11_about_115 : decode cX11_about 115 = .ok (.getfield 28, 3) := by decide +kernel
theorem dX11_about_118 : decode cX11_about 118 = .ok (.getfield 130, 3) := by decide +kernel
theorem dX11_about_121 : decode cX11_about 121 = .ok (.getfield 134, 3) := by decide +kernel
theorem dX11_about_124 : decode cX11_about 124 = .ok (.ireturn, 1) := by decide +kernel
theorem dX11_about_125 : decode cX11_about 125 = .ok (.aload_n 0, 1) := by decide +kernel
theorem dX11_about_126 : decode cX11_about 126 = .ok (.getfield 28, 3) := by decide +kernel
theorem dX11_about_129 : decode cX11_about 129 = .ok (.getfield 137, 3) := by decide +kernel
theorem dX11_about_132 : decode cX11_about 132 = .ok (.ifCond .eq 7, 3) := by decide +kernel
theorem dX11_about_135 : decode cX11_about 135 = .ok (.iconst 1, 1) := by decide +kernel
theorem dX11_about_136 : decode cX11_about 136 = .ok (.goto 4, 3) := by decide +kernel
theorem dX11_about_139 : decode cX11_about 139 = .ok (.iconst 0, 1) := by decide +kernel
theorem dX11_about_140 : decode cX11_about 140 = .ok (.ireturn, 1) := by decide +kernel
theorem dX11_about_141 : decode cX11_about 141 = .ok (.aload_n 0, 1) := by decide +kernel
theorem dX11_about_142 : decode cX11_about 142 = .ok (.getfield 28, 3) := by decide +kernel
theorem dX11_about_145 : decode cX11_about 145 = .ok (.invokevirtual 140, 3) := by decide +kernel
theorem dX11_about_148 : decode cX11_about 148 = .ok (.ifCond .eq 7, 3) := by decide +kernel
theorem dX11_about_151 : decode cX11_about 151 = .ok (.iconst 1, 1) := by decide +kernel
theorem dX11_about_152 : decode cX11_about 152 = .ok (.goto 4, 3) := by decide +kernel
theorem dX11_about_155 : decode cX11_about 155 = .ok (.iconst 0, 1) := by decide +kernel
theorem dX11_about_156 : decode cX11_about 156 = .ok (.ireturn, 1) := by decide +kernel
theorem dX11_about_157 : decode cX11_about 157 = .ok (.aload_n 0, 1) := by decide +kernel
theorem dX11_about_158 : decode cX11_about 158 = .ok (.getfield 66, 3) := by decide +kernel
theorem dX11_about_161 : decode cX11_about 161 = .ok (.invokevirtual 144, 3) := by decide +kernel
theorem dX11_about_164 : decode cX11_about 164 = .ok (.ireturn, 1) := by decide +kernel
theorem dX11_about_165 : decode cX11_about 165 = .ok (.aload_n 0, 1) := by decide +kernel
theorem dX11_about_166 : decode cX11_about 166 = .ok (.getfield 66, 3) := by decide +kernel
theorem dX11_about_169 : decode cX11_about 169 = .ok (.aload_n 0, 1) := by decide +kernel
theorem dX11_about_170 : decode cX11_about 170 = .ok (.getfield 28, 3) := by decide +kernel
theorem dX11_about_173 : decode cX11_about 173 = .ok (.getfield 115, 3) := by decide +kernel
theorem dX11_about_176 : decode cX11_about 176 = .ok (.invokevirtual 147, 3) := by decide +kernel
theorem dX11_about_179 : decode cX11_about 179 = .ok (.ireturn, 1) := by decide +kernel
theorem dX11_about_180 : decode cX11_about 180 = .ok (.aload_n 0, 1) := by decide +kernel
theorem dX11_about_181 : decode cX11_about 181 = .ok (.getfield 45, 3) := by decide +kernel
theorem dX11_about_184 : decode cX11_about 184 = .ok (.getfield 100, 3) := by decide +kernel
theorem dX11_about_187 : decode cX11_about 187 = .ok (.ireturn, 1) := by decide +kernel
theorem dX11_about_188 : decode cX11_about 188 = .ok (.aload_n 0, 1) := by decide +kernel
theorem dX11_about_189 : decode cX11_about 189 = .ok (.getfield 59, 3) := by decide +kernel
theorem dX11_about_192 : decode cX11_about 192 = .ok (.getfield 151, 3) := by decide +kernel
theorem dX11_about_195 : decode cX11_about 195 = .ok (.ireturn, 1) := by decide +kernel
theorem dX11_about_196 : decode cX11_about 196 = .ok (.aload_n 0, 1) := by decide +kernel
theorem dX11_about_197 : decode cX11_about 197 = .ok (.getfield 19, 3) := by decide +kernel
theorem dX11_about_200 : decode cX11_about 200 = .ok (.getfield 81, 3) := by decide +kernel
theorem dX11_about_203 : decode cX11_about 203 = .ok (.ireturn, 1) := by decide +kernel
theorem dX11_about_204 : decode cX11_about 204 = .ok (.bipush (-2), 2) := by decide +kernel
theorem dX11_about_206 : decode cX11_about 206 = .ok (.ireturn, 1) := by decide +kernel
theorem dX11_number_0 : decode cX11_number 0 = .ok (.aload_n 0, 1) := by decide +kernel
theorem dX11_number_1 : decode cX11_number 1 = .ok (.getfield 12, 3) := by decide +kernel
theorem dX11_number_4 : decode cX11_number 4 = .ok (.iload_n 1, 1) := by decide +kernel
theorem dX11_number_5 : decode cX11_number 5 = .ok (.invokevirtual 152, 3) := by decide +kernel
theorem dX11_number_8 : decode cX11_number 8 = .ok (.ifCond .ne 5, 3) := by decide +kernel
theorem dX11_number_11 : decode cX11_number 11 = .ok (.iconst (-1), 1) := by decide +kernel
theorem dX11_number_12 : decode cX11_number 12 = .ok (.ireturn, 1) := by decide +kernel
theorem dX11_number_13 : decode cX11_number 13 = .ok (.iload_n 2, 1) := by decide +kernel
theorem dX11_number_14 : decode cX11_number 14 = .ok (.tableswitch 75 0 3 #[30, 43, 56, 66], 30) := by decide +kernel
theorem dX11_number_44 : decode cX11_number 44 = .ok (.aload_n 0, 1) := by decide +kernel
theorem dX11_number_45 : decode cX11_number 45 = .ok (.getfield 28, 3) := by decide +kernel
theorem dX11_number_48 : decode cX11_number 48 = .ok (.getfield 115, 3) := by decide +kernel
theorem dX11_number_51 : decode cX11_number 51 = .ok (.getfield 156, 3) := by decide +kernel
theorem dX11_number_54 : decode cX11_number 54 = .ok (.iload_n 1, 1) := by decide +kernel
theorem dX11_number_55 : decode cX11_number 55 = .ok (.iaload, 1) := by decide +kernel
theorem dX11_number_56 : decode cX11_number 56 = .ok (.ireturn, 1) := by decide +kernel
theorem dX11_number_57 : decode cX11_number 57 = .ok (.aload_n 0, 1) := by decide +kernel
theorem dX11_number_58 : decode cX11_number 58 = .ok (.getfield 28, 3) := by decide +kernel
theorem dX11_number_61 : decode cX11_number 61 = .ok (.getfield 115, 3) := by decide +kernel
theorem dX11_number_64 : decode cX11_number 64 = .ok (.getfield 160, 3) := by decide +kernel
theorem dX11_number_67 : decode cX11_number 67 = .ok (.iload_n 1, 1) := by decide +kernel
theorem dX11_number_68 : decode cX11_number 68 = .ok (.iaload, 1) := by decide +kernel
theorem dX11_number_69 : decode cX11_number 69 = .ok (.ireturn, 1) := by decide +kernel
theorem dX11_number_70 : decode cX11_number 70 = .ok (.aload_n 0, 1) := by decide +kernel
theorem dX11_number_71 : decode cX11_number 71 = .ok (.getfield 12, 3) := by decide +kernel
theorem dX11_number_74 : decode cX11_number 74 = .ok (.getfield 163, 3) := by decide +kernel
theorem dX11_number_77 : decode cX11_number 77 = .ok (.iload_n 1, 1) := by decide +kernel
theorem dX11_number_78 : decode cX11_number 78 = .ok (.iaload, 1) := by decide +kernel
theorem dX11_number_79 : decode cX11_number 79 = .ok (.ireturn, 1) := by decide +kernel
theorem dX11_number_80 : decode cX11_number 80 = .ok (.aload_n 0, 1) := by decide +kernel
theorem dX11_number_81 : decode cX11_number 81 = .ok (.getfield 66, 3) := by decide +kernel
theorem dX11_number_84 : decode cX11_number 84 = .ok (.iload_n 1, 1) := by decide +kernel
theorem dX11_number_85 : decode cX11_number 85 = .ok (.invokevirtual 166, 3) := by decide +kernel
theorem dX11_number_88 : decode cX11_number 88 = .ok (.ireturn, 1) := by decide +kernel
theorem dX11_number_89 : decode cX11_number 89 = .ok (.bipush (-2), 2) := by decide +kernel
theorem dX11_number_91 : decode cX11_number 91 = .ok (.ireturn, 1) := by decide +kernel
theorem dX11_rule_0 : decode cX11_rule 0 = .ok (.aload_n 0, 1) := by decide +kernel
theorem dX11_rule_1 : decode cX11_rule 1 = .ok (.getfield 12, 3) := by decide +kernel
theorem dX11_rule_4 : decode cX11_rule 4 = .ok (.iload_n 1, 1) := by decide +kernel
theorem dX11_rule_5 : decode cX11_rule 5 = .ok (.invokevirtual 170, 3) := by decide +kernel
theorem dX11_rule_8 : decode cX11_rule 8 = .ok (.ifCond .ne 5, 3) := by decide +kernel
theorem dX11_rule_11 : decode cX11_rule 11 = .ok (.iconst (-1), 1) := by decide +kernel
theorem dX11_rule_12 : decode cX11_rule 12 = .ok (.ireturn, 1) := by decide +kernel
theorem dX11_rule_13 : decode cX11_rule 13 = .ok (.aload_n 0, 1) := by decide +kernel
theorem dX11_rule_14 : decode cX11_rule 14 = .ok (.getfield 12, 3) := by decide +kernel
theorem dX11_rule_17 : decode cX11_rule 17 = .ok (.iload_n 2, 1) := by decide +kernel
theorem dX11_rule_18 : decode cX11_rule 18 = .ok (.invokevirtual 152, 3) := by decide +kernel
theorem dX11_rule_21 : decode cX11_rule 21 = .ok (.ifCond .eq 18, 3) := by decide +kernel
theorem dX11_rule_24 : decode cX11_rule 24 = .ok (.aload_n 0, 1) := by decide +kernel
theorem dX11_rule_25 : decode cX11_rule 25 = .ok (.getfield 12, 3) := by decide +kernel
theorem dX11_rule_28 : decode cX11_rule 28 = .ok (.getfield 173, 3) := by decide +kernel
theorem dX11_rule_31 : decode cX11_rule 31 = .ok (.iload_n 1, 1) := by decide +kernel
theorem dX11_rule_32 : decode cX11_rule 32 = .ok (.aaload, 1) := by decide +kernel
theorem dX11_rule_33 : decode cX11_rule 33 = .ok (.iload_n 2, 1) := by decide +kernel
theorem dX11_rule_34 : decode cX11_rule 34 = .ok (.iaload, 1) := by decide +kernel
theorem dX11_rule_35 : decode cX11_rule 35 = .ok (.bipush 10, 2) := by decide +kernel
theorem dX11_rule_37 : decode cX11_rule 37 = .ok (.iadd, 1) := by decide +kernel
theorem dX11_rule_38 : decode cX11_rule 38 = .ok (.ireturn, 1) := by decide +kernel
theorem dX11_rule_39 : decode cX11_rule 39 = .ok (.iload_n 2, 1) := by decide +kernel
theorem dX11_rule_40 : decode cX11_rule 40 = .ok (.lookupswitch 54 #[(4, 28), (5, 41)], 28) := by decide +kernel
theorem dX11_rule_68 : decode cX11_rule 68 = .ok (.aload_n 0, 1) := by decide +kernel
theorem dX11_rule_69 : decode cX11_rule 69 = .ok (.getfield 12, 3) := by decide +kernel
theorem dX11_rule_72 : decode cX11_rule 72 = .ok (.getfield 177, 3) := by decide +kernel
theorem dX11_rule_75 : decode cX11_rule 75 = .ok (.iload_n 1, 1) := by decide +kernel
theorem dX11_rule_76 : decode cX11_rule 76 = .ok (.iaload, 1) := by decide +kernel
theorem dX11_rule_77 : decode cX11_rule 77 = .ok (.bipush 100, 2) := by decide +kernel
theorem dX11_rule_79 : decode cX11_rule 79 = .ok (.iadd, 1) := by decide +kernel
theorem dX11_rule_80 : decode cX11_rule 80 = .ok (.ireturn, 1) := by decide +kernel
theorem dX11_rule_81 : decode cX11_rule 81 = .ok (.aload_n 0, 1) := by decide +kernel
theorem dX11_rule_82 : decode cX11_rule 82 = .ok (.getfield 28, 3) := by decide +kernel
theorem dX11_rule_85 : decode cX11_rule 85 = .ok (.iload_n 1, 1) := by decide +kernel
theorem dX11_rule_86 : decode cX11_rule 86 = .ok (.invokevirtual 180, 3) := by decide +kernel
theorem dX11_rule_89 : decode cX11_rule 89 = .ok (.sipush 1000, 3) := by decide +kernel
theorem dX11_rule_92 : decode cX11_rule 92 = .ok (.iadd, 1) := by decide +kernel
theorem dX11_rule_93 : decode cX11_rule 93 = .ok (.ireturn, 1) := by decide +kernel
theorem dX11_rule_94 : decode cX11_rule 94 = .ok (.bipush (-2), 2) := by decide +kernel
theorem dX11_rule_96 : decode cX11_rule 96 = .ok (.ireturn, 1) := by decide +kernel
theorem dX11_mark_0 : decode cX11_mark 0 = .ok (.iload_n 2, 1) := by decide +kernel
theorem dX11_mark_1 : decode cX11_mark 1 = .ok (.ifCond .lt 8, 3) := by decide +kernel
theorem dX11_mark_4 : decode cX11_mark 4 = .ok (.iload_n 2, 1) := by decide +kernel
theorem dX11_mark_5 : decode cX11_mark 5 = .ok (.iconst 3, 1) := by decide +kernel
theorem dX11_mark_6 : decode cX11_mark 6 = .ok (.if_icmp .le 6, 3) := by decide +kernel
theorem dX11_mark_9 : decode cX11_mark 9 = .ok (.bipush (-2), 2) := by decide +kernel
theorem dX11_mark_11 : decode cX11_mark 11 = .ok (.ireturn, 1) := by decide +kernel
theorem dX11_mark_12 : decode cX11_mark 12 = .ok (.iload_n 1, 1) := by decide +kernel
theorem dX11_mark_13 : decode cX11_mark 13 = .ok (.ifCond .lt 17, 3) := by decide +kernel
theorem dX11_mark_16 : decode cX11_mark 16 = .ok (.iload_n 1, 1) := by decide +kernel
theorem dX11_mark_17 : decode cX11_mark 17 = .ok (.aload_n 0, 1) := by decide +kernel
theorem dX11_mark_18 : decode cX11_mark 18 = .ok (.getfield 28, 3) := by decide +kernel
theorem dX11_mark_21 : decode cX11_mark 21 = .ok (.getfield 115, 3) := by decide +kernel
theorem dX11_mark_24 : decode cX11_mark 24 = .ok (.getfield 119, 3) := by decide +kernel
theorem dX11_mark_27 : decode cX11_mark 27 = .ok (.if_icmp .lt 6, 3) := by decide +kernel
theorem dX11_mark_30 : decode cX11_mark 30 = .ok (.bipush (-9), 2) := by decide +kernel
theorem dX11_mark_32 : decode cX11_mark 32 = .ok (.ireturn, 1) := by decide +kernel
theorem dX11_mark_33 : decode cX11_mark 33 = .ok (.iload_n 2, 1) := by decide +kernel
theorem dX11_mark_34 : decode cX11_mark 34 = .ok (.tableswitch 65 0 2 #[26, 39, 52], 26) := by decide +kernel
theorem dX11_mark_60 : decode cX11_mark 60 = .ok (.aload_n 0, 1) := by decide +kernel
theorem dX11_mark_61 : decode cX11_mark 61 = .ok (.getfield 28, 3) := by decide +kernel
theorem dX11_mark_64 : decode cX11_mark 64 = .ok (.getfield 115, 3) := by decide +kernel
theorem dX11_mark_67 : decode cX11_mark 67 = .ok (.getfield 183, 3) := by decide +kernel
theorem dX11_mark_70 : decode cX11_mark 70 = .ok (.iload_n 1, 1) := by decide +kernel
theorem dX11_mark_71 : decode cX11_mark 71 = .ok (.iaload, 1) := by decide +kernel
theorem dX11_mark_72 : decode cX11_mark 72 = .ok (.ireturn, 1) := by decide +kernel
theorem dX11_mark_73 : decode cX11_mark 73 = .ok (.aload_n 0, 1) := by decide +kernel
theorem dX11_mark_74 : decode cX11_mark 74 = .ok (.getfield 28, 3) := by decide +kernel
theorem dX11_mark_77 : decode cX11_mark 77 = .ok (.getfield 115, 3) := by decide +kernel
theorem dX11_mark_80 : decode cX11_mark 80 = .ok (.getfield 186, 3) := by decide +kernel
theorem dX11_mark_83 : decode cX11_mark 83 = .ok (.iload_n 1, 1) := by decide +kernel
theorem dX11_mark_84 : decode cX11_mark 84 = .ok (.iaload, 1) := by decide +kernel
theorem dX11_mark_85 : decode cX11_mark 85 = .ok (.ireturn, 1) := by decide +kernel
theorem dX11_mark_86 : decode cX11_mark 86 = .ok (.aload_n 0, 1) := by decide +kernel
theorem dX11_mark_87 : decode cX11_mark 87 = .ok (.getfield 28, 3) := by decide +kernel
theorem dX11_mark_90 : decode cX11_mark 90 = .ok (.getfield 115, 3) := by decide +kernel
theorem dX11_mark_93 : decode cX11_mark 93 = .ok (.getfield 189, 3) := by decide +kernel
theorem dX11_mark_96 : decode cX11_mark 96 = .ok (.iload_n 1, 1) := by decide +kernel
theorem dX11_mark_97 : decode cX11_mark 97 = .ok (.iaload, 1) := by decide +kernel
theorem dX11_mark_98 : decode cX11_mark 98 = .ok (.ireturn, 1) := by decide +kernel
theorem dX11_mark_99 : decode cX11_mark 99 = .ok (.aload_n 0, 1) := by decide +kernel
theorem dX11_mark_100 : decode cX11_mark 100 = .ok (.getfield 38, 3) := by decide +kernel
theorem dX11_mark_103 : decode cX11_mark 103 = .ok (.aload_n 0, 1) := by decide +kernel
theorem dX11_mark_104 : decode cX11_mark 104 = .ok (.getfield 28, 3) := by decide +kernel
theorem dX11_mark_107 : decode cX11_mark 107 = .ok (.iload_n 1, 1) := by decide +kernel
theorem dX11_mark_108 : decode cX11_mark 108 = .ok (.invokevirtual 192, 3) := by decide +kernel
theorem dX11_mark_111 : decode cX11_mark 111 = .ok (.ireturn, 1) := by decide +kernel
theorem dX11_cut_0 : decode cX11_cut 0 = .ok (.aload_n 0, 1) := by decide +kernel
theorem dX11_cut_1 : decode cX11_cut 1 = .ok (.getfield 28, 3) := by decide +kernel
theorem dX11_cut_4 : decode cX11_cut 4 = .ok (.getfield 130, 3) := by decide +kernel
theorem dX11_cut_7 : decode cX11_cut 7 = .ok (.iload_n 1, 1) := by decide +kernel
theorem dX11_cut_8 : decode cX11_cut 8 = .ok (.invokevirtual 196, 3) := by decide +kernel
theorem dX11_cut_11 : decode cX11_cut 11 = .ok (.ifCond .ne 5, 3) := by decide +kernel
theorem dX11_cut_14 : decode cX11_cut 14 = .ok (.iconst (-1), 1) := by decide +kernel
theorem dX11_cut_15 : decode cX11_cut 15 = .ok (.ireturn, 1) := by decide +kernel
theorem dX11_cut_16 : decode cX11_cut 16 = .ok (.iload_n 2, 1) := by decide +kernel
theorem dX11_cut_17 : decode cX11_cut 17 = .ok (.ifCond .lt 19, 3) := by decide +kernel
theorem dX11_cut_20 : decode cX11_cut 20 = .ok (.iload_n 2, 1) := by decide +kernel
theorem dX11_cut_21 : decode cX11_cut 21 = .ok (.aload_n 0, 1) := by decide +kernel
theorem dX11_cut_22 : decode cX11_cut 22 = .ok (.getfield 28, 3) := by decide +kernel
theorem dX11_cut_25 : decode cX11_cut 25 = .ok (.getfield 130, 3) := by decide +kernel
theorem dX11_cut_28 : decode cX11_cut 28 = .ok (.getfield 199, 3) := by decide +kernel
theorem dX11_cut_31 : decode cX11_cut 31 = .ok (.iload_n 1, 1) := by decide +kernel
theorem dX11_cut_32 : decode cX11_cut 32 = .ok (.iaload, 1) := by decide +kernel
theorem dX11_cut_33 : decode cX11_cut 33 = .ok (.if_icmp .lt 6, 3) := by decide +kernel
theorem dX11_cut_36 : decode cX11_cut 36 = .ok (.bipush (-9), 2) := by decide +kernel
theorem dX11_cut_38 : decode cX11_cut 38 = .ok (.ireturn, 1) := by decide +kernel
theorem dX11_cut_39 : decode cX11_cut 39 = .ok (.aload_n 0, 1) := by decide +kernel
theorem dX11_cut_40 : decode cX11_cut 40 = .ok (.getfield 28, 3) := by decide +kernel
theorem dX11_cut_43 : decode cX11_cut 43 = .ok (.getfield 130, 3) := by decide +kernel
theorem dX11_cut_46 : decode cX11_cut 46 = .ok (.iload_n 1, 1) := by decide +kernel
theorem dX11_cut_47 : decode cX11_cut 47 = .ok (.iload_n 2, 1) := by decide +kernel
theorem dX11_cut_48 : decode cX11_cut 48 = .ok (.invokevirtual 202, 3) := by decide +kernel
theorem dX11_cut_51 : decode cX11_cut 51 = .ok (.ireturn, 1) := by decide +kernel
theorem dX11_follows_0 : decode cX11_follows 0 = .ok (.aload_n 0, 1) := by decide +kernel
theorem dX11_follows_1 : decode cX11_follows 1 = .ok (.getfield 28, 3) := by decide +kernel
theorem dX11_follows_4 : decode cX11_follows 4 = .ok (.getfield 130, 3) := by decide +kernel
theorem dX11_follows_7 : decode cX11_follows 7 = .ok (.iload_n 1, 1) := by decide +kernel
theorem dX11_follows_8 : decode cX11_follows 8 = .ok (.invokevirtual 196, 3) := by decide +kernel
theorem dX11_follows_11 : decode cX11_follows 11 = .ok (.ifCond .ne 5, 3) := by decide +kernel
theorem dX11_follows_14 : decode cX11_follows 14 = .ok (.iconst (-1), 1) := by decide +kernel
theorem dX11_follows_15 : decode cX11_follows 15 = .ok (.ireturn, 1) := by decide +kernel
theorem dX11_follows_16 : decode cX11_follows 16 = .ok (.aload_n 0, 1) := by decide +kernel
theorem dX11_follows_17 : decode cX11_follows 17 = .ok (.getfield 66, 3) := by decide +kernel
theorem dX11_follows_20 : decode cX11_follows 20 = .ok (.aload_n 0, 1) := by decide +kernel
theorem dX11_follows_21 : decode cX11_follows 21 = .ok (.getfield 28, 3) := by decide +kernel
theorem dX11_follows_24 : decode cX11_follows 24 = .ok (.getfield 130, 3) := by decide +kernel
theorem dX11_follows_27 : decode cX11_follows 27 = .ok (.iload_n 1, 1) := by decide +kernel
theorem dX11_follows_28 : decode cX11_follows 28 = .ok (.invokevirtual 206, 3) := by decide +kernel
theorem dX11_follows_31 : decode cX11_follows 31 = .ok (.ifCond .ne 7, 3) := by decide +kernel
theorem dX11_follows_34 : decode cX11_follows 34 = .ok (.iconst 1, 1) := by decide +kernel
theorem dX11_follows_35 : decode cX11_follows 35 = .ok (.goto 4, 3) := by decide +kernel
theorem dX11_follows_38 : decode cX11_follows 38 = .ok (.iconst 0, 1) := by decide +kernel
theorem dX11_follows_39 : decode cX11_follows 39 = .ok (.ireturn, 1) := by decide +kernel
theorem dX11_make_0 : decode cX11_make 0 = .ok (.aload_n 0, 1) := by decide +kernel
theorem dX11_make_1 : decode cX11_make 1 = .ok (.getfield 12, 3) := by decide +kernel
theorem dX11_make_4 : decode cX11_make 4 = .ok (.iload_n 1, 1) := by decide +kernel
theorem dX11_make_5 : decode cX11_make 5 = .ok (.invokevirtual 152, 3) := by decide +kernel
theorem dX11_make_8 : decode cX11_make 8 = .ok (.ifCond .ne 5, 3) := by decide +kernel
theorem dX11_make_11 : decode cX11_make 11 = .ok (.iconst (-1), 1) := by decide +kernel
theorem dX11_make_12 : decode cX11_make 12 = .ok (.ireturn, 1) := by decide +kernel
theorem dX11_make_13 : decode cX11_make 13 = .ok (.iload_n 2, 1) := by decide +kernel
theorem dX11_make_14 : decode cX11_make 14 = .ok (.invokestatic 210, 3) := by decide +kernel
theorem dX11_make_17 : decode cX11_make 17 = .ok (.ifCond .eq 10, 3) := by decide +kernel
theorem dX11_make_20 : decode cX11_make 20 = .ok (.iload_n 3, 1) := by decide +kernel
theorem dX11_make_21 : decode cX11_make 21 = .ok (.invokestatic 213, 3) := by decide +kernel
theorem dX11_make_24 : decode cX11_make 24 = .ok (.ifCond .ne 6, 3) := by decide +kernel
theorem dX11_make_27 : decode cX11_make 27 = .ok (.bipush (-2), 2) := by decide +kernel
theorem dX11_make_29 : decode cX11_make 29 = .ok (.ireturn, 1) := by decide +kernel
theorem dX11_make_30 : decode cX11_make 30 = .ok (.iload_n 1, 1) := by decide +kernel
theorem dX11_make_31 : decode cX11_make 31 = .ok (.iload_n 2, 1) := by decide +kernel
theorem dX11_make_32 : decode cX11_make 32 = .ok (.iload_n 3, 1) := by decide +kernel
theorem dX11_make_33 : decode cX11_make 33 = .ok (.invokestatic 216, 3) := by decide +kernel
theorem dX11_make_36 : decode cX11_make 36 = .ok (.istore 4, 2) := by decide +kernel
theorem dX11_make_38 : decode cX11_make 38 = .ok (.aload_n 0, 1) := by decide +kernel
theorem dX11_make_39 : decode cX11_make 39 = .ok (.getfield 28, 3) := by decide +kernel
theorem dX11_make_42 : decode cX11_make 42 = .ok (.iload 4, 2) := by decide +kernel
theorem dX11_make_44 : decode cX11_make 44 = .ok (.invokevirtual 220, 3) := by decide +kernel
theorem dX11_make_47 : decode cX11_make 47 = .ok (.ifCond .ne 6, 3) := by decide +kernel
theorem dX11_make_50 : decode cX11_make 50 = .ok (.bipush (-3), 2) := by decide +kernel
theorem dX11_make_52 : decode cX11_make 52 = .ok (.ireturn, 1) := by decide +kernel
theorem dX11_make_53 : decode cX11_make 53 = .ok (.aload_n 0, 1) := by decide +kernel
theorem dX11_make_54 : decode cX11_make 54 = .ok (.getfield 45, 3) := by decide +kernel
theorem dX11_make_57 : decode cX11_make 57 = .ok (.aload_n 0, 1) := by decide +kernel
theorem dX11_make_58 : decode cX11_make 58 = .ok (.getfield 28, 3) := by decide +kernel
theorem dX11_make_61 : decode cX11_make 61 = .ok (.invokevirtual 223, 3) := by decide +kernel
theorem dX11_make_64 : decode cX11_make 64 = .ok (.aload_n 0, 1) := by decide +kernel
theorem dX11_make_65 : decode cX11_make 65 = .ok (.getfield 28, 3) := by decide +kernel
theorem dX11_make_68 : decode cX11_make 68 = .ok (.iload 4, 2) := by decide +kernel
theorem dX11_make_70 : decode cX11_make 70 = .ok (.invokevirtual 227, 3) := by decide +kernel
theorem dX11_make_73 : decode cX11_make 73 = .ok (.pop, 1) := by decide +kernel
theorem dX11_make_74 : decode cX11_make 74 = .ok (.aload_n 0, 1) := by decide +kernel
theorem dX11_make_75 : decode cX11_make 75 = .ok (.getfield 28, 3) := by decide +kernel
theorem dX11_make_78 : decode cX11_make 78 = .ok (.getfield 115, 3) := by decide +kernel
theorem dX11_make_81 : decode cX11_make 81 = .ok (.getfield 119, 3) := by decide +kernel
theorem dX11_make_84 : decode cX11_make 84 = .ok (.ireturn, 1) := by decide +kernel
theorem dX11_learn_0 : decode cX11_learn 0 = .ok (.aload_n 0, 1) := by decide +kernel
theorem dX11_learn_1 : decode cX11_learn 1 = .ok (.getfield 28, 3) := by decide +kernel
theorem dX11_learn_4 : decode cX11_learn 4 = .ok (.invokevirtual 230, 3) := by decide +kernel
theorem dX11_learn_7 : decode cX11_learn 7 = .ok (.ifCond .ne 6, 3) := by decide +kernel
theorem dX11_learn_10 : decode cX11_learn 10 = .ok (.bipush (-3), 2) := by decide +kernel
theorem dX11_learn_12 : decode cX11_learn 12 = .ok (.ireturn, 1) := by decide +kernel
theorem dX11_learn_13 : decode cX11_learn 13 = .ok (.aload_n 0, 1) := by decide +kernel
theorem dX11_learn_14 : decode cX11_learn 14 = .ok (.getfield 45, 3) := by decide +kernel
theorem dX11_learn_17 : decode cX11_learn 17 = .ok (.aload_n 0, 1) := by decide +kernel
theorem dX11_learn_18 : decode cX11_learn 18 = .ok (.getfield 28, 3) := by decide +kernel
theorem dX11_learn_21 : decode cX11_learn 21 = .ok (.invokevirtual 223, 3) := by decide +kernel
theorem dX11_learn_24 : decode cX11_learn 24 = .ok (.aload_n 0, 1) := by decide +kernel
theorem dX11_learn_25 : decode cX11_learn 25 = .ok (.getfield 38, 3) := by decide +kernel
theorem dX11_learn_28 : decode cX11_learn 28 = .ok (.aload_n 0, 1) := by decide +kernel
theorem dX11_learn_29 : decode cX11_learn 29 = .ok (.getfield 28, 3) := by decide +kernel
theorem dX11_learn_32 : decode cX11_learn 32 = .ok (.invokevirtual 233, 3) := by decide +kernel
theorem dX11_learn_35 : decode cX11_learn 35 = .ok (.ireturn, 1) := by decide +kernel
theorem dX11_leave_0 : decode cX11_leave 0 = .ok (.aload_n 0, 1) := by decide +kernel
theorem dX11_leave_1 : decode cX11_leave 1 = .ok (.getfield 28, 3) := by decide +kernel
theorem dX11_leave_4 : decode cX11_leave 4 = .ok (.getfield 115, 3) := by decide +kernel
theorem dX11_leave_7 : decode cX11_leave 7 = .ok (.invokevirtual 124, 3) := by decide +kernel
theorem dX11_leave_10 : decode cX11_leave 10 = .ok (.ifCond .ne 6, 3) := by decide +kernel
theorem dX11_leave_13 : decode cX11_leave 13 = .ok (.bipush (-3), 2) := by decide +kernel
theorem dX11_leave_15 : decode cX11_leave 15 = .ok (.ireturn, 1) := by decide +kernel
theorem dX11_leave_16 : decode cX11_leave 16 = .ok (.aload_n 0, 1) := by decide +kernel
theorem dX11_leave_17 : decode cX11_leave 17 = .ok (.getfield 45, 3) := by decide +kernel
theorem dX11_leave_20 : decode cX11_leave 20 = .ok (.aload_n 0, 1) := by decide +kernel
theorem dX11_leave_21 : decode cX11_leave 21 = .ok (.getfield 28, 3) := by decide +kernel
theorem dX11_leave_24 : decode cX11_leave 24 = .ok (.invokevirtual 223, 3) := by decide +kernel
theorem dX11_leave_27 : decode cX11_leave 27 = .ok (.aload_n 0, 1) := by decide +kernel
theorem dX11_leave_28 : decode cX11_leave 28 = .ok (.getfield 28, 3) := by decide +kernel
theorem dX11_leave_31 : decode cX11_leave 31 = .ok (.invokevirtual 237, 3) := by decide +kernel
theorem dX11_leave_34 : decode cX11_leave 34 = .ok (.aload_n 0, 1) := by decide +kernel
theorem dX11_leave_35 : decode cX11_leave 35 = .ok (.getfield 28, 3) := by decide +kernel
theorem dX11_leave_38 : decode cX11_leave 38 = .ok (.getfield 115, 3) := by decide +kernel
theorem dX11_leave_41 : decode cX11_leave 41 = .ok (.invokevirtual 124, 3) := by decide +kernel
theorem dX11_leave_44 : decode cX11_leave 44 = .ok (.ireturn, 1) := by decide +kernel
theorem dX11_run_0 : decode cX11_run 0 = .ok (.iload_n 1, 1) := by decide +kernel
theorem dX11_run_1 : decode cX11_run 1 = .ok (.iconst 1, 1) := by decide +kernel
theorem dX11_run_2 : decode cX11_run 2 = .ok (.if_icmp .lt 9, 3) := by decide +kernel
theorem dX11_run_5 : decode cX11_run 5 = .ok (.iload_n 1, 1) := by decide +kernel
theorem dX11_run_6 : decode cX11_run 6 = .ok (.bipush 50, 2) := by decide +kernel
theorem dX11_run_8 : decode cX11_run 8 = .ok (.if_icmp .le 6, 3) := by decide +kernel
theorem dX11_run_11 : decode cX11_run 11 = .ok (.bipush (-2), 2) := by decide +kernel
theorem dX11_run_13 : decode cX11_run 13 = .ok (.ireturn, 1) := by decide +kernel
theorem dX11_run_14 : decode cX11_run 14 = .ok (.aload_n 0, 1) := by decide +kernel
theorem dX11_run_15 : decode cX11_run 15 = .ok (.getfield 45, 3) := by decide +kernel
theorem dX11_run_18 : decode cX11_run 18 = .ok (.aload_n 0, 1) := by decide +kernel
theorem dX11_run_19 : decode cX11_run 19 = .ok (.getfield 28, 3) := by decide +kernel
theorem dX11_run_22 : decode cX11_run 22 = .ok (.invokevirtual 223, 3) := by decide +kernel
theorem dX11_run_25 : decode cX11_run 25 = .ok (.iconst 0, 1) := by decide +kernel
theorem dX11_run_26 : decode cX11_run 26 = .ok (.istore_n 2, 1) := by decide +kernel
theorem dX11_run_27 : decode cX11_run 27 = .ok (.iload_n 2, 1) := by decide +kernel
theorem dX11_run_28 : decode cX11_run 28 = .ok (.iload_n 1, 1) := by decide +kernel
theorem dX11_run_29 : decode cX11_run 29 = .ok (.if_icmp .ge 16, 3) := by decide +kernel
theorem dX11_run_32 : decode cX11_run 32 = .ok (.aload_n 0, 1) := by decide +kernel
theorem dX11_run_33 : decode cX11_run 33 = .ok (.invokevirtual 240, 3) := by decide +kernel
theorem dX11_run_36 : decode cX11_run 36 = .ok (.ifCond .eq 9, 3) := by decide +kernel
theorem dX11_run_39 : decode cX11_run 39 = .ok (.iinc 2 1, 3) := by decide +kernel
theorem dX11_run_42 : decode cX11_run 42 = .ok (.goto (-15), 3) := by decide +kernel
theorem dX11_run_45 : decode cX11_run 45 = .ok (.iload_n 2, 1) := by decide +kernel
theorem dX11_run_46 : decode cX11_run 46 = .ok (.ireturn, 1) := by decide +kernel
theorem dX11_undo_0 : decode cX11_undo 0 = .ok (.aload_n 0, 1) := by decide +kernel
theorem dX11_undo_1 : decode cX11_undo 1 = .ok (.getfield 45, 3) := by decide +kernel
theorem dX11_undo_4 : decode cX11_undo 4 = .ok (.getfield 100, 3) := by decide +kernel
theorem dX11_undo_7 : decode cX11_undo 7 = .ok (.ifCond .gt 6, 3) := by decide +kernel
theorem dX11_undo_10 : decode cX11_undo 10 = .ok (.bipush (-3), 2) := by decide +kernel
theorem dX11_undo_12 : decode cX11_undo 12 = .ok (.ireturn, 1) := by decide +kernel
theorem dX11_undo_13 : decode cX11_undo 13 = .ok (.aload_n 0, 1) := by decide +kernel
theorem dX11_undo_14 : decode cX11_undo 14 = .ok (.getfield 45, 3) := by decide +kernel
theorem dX11_undo_17 : decode cX11_undo 17 = .ok (.aload_n 0, 1) := by decide +kernel
theorem dX11_undo_18 : decode cX11_undo 18 = .ok (.getfield 28, 3) := by decide +kernel
theorem dX11_undo_21 : decode cX11_undo 21 = .ok (.invokevirtual 243, 3) := by decide +kernel
theorem dX11_undo_24 : decode cX11_undo 24 = .ok (.aload_n 0, 1) := by decide +kernel
theorem dX11_undo_25 : decode cX11_undo 25 = .ok (.getfield 45, 3) := by decide +kernel
theorem dX11_undo_28 : decode cX11_undo 28 = .ok (.getfield 100, 3) := by decide +kernel
theorem dX11_undo_31 : decode cX11_undo 31 = .ok (.ireturn, 1) := by decide +kernel
theorem dX11_judge_0 : decode cX11_judge 0 = .ok (.iload_n 1, 1) := by decide +kernel
theorem dX11_judge_1 : decode cX11_judge 1 = .ok (.iconst 1, 1) := by decide +kernel
theorem dX11_judge_2 : decode cX11_judge 2 = .ok (.if_icmp .lt 8, 3) := by decide +kernel
theorem dX11_judge_5 : decode cX11_judge 5 = .ok (.iload_n 1, 1) := by decide +kernel
theorem dX11_judge_6 : decode cX11_judge 6 = .ok (.iconst 4, 1) := by decide +kernel
theorem dX11_judge_7 : decode cX11_judge 7 = .ok (.if_icmp .le 6, 3) := by decide +kernel
theorem dX11_judge_10 : decode cX11_judge 10 = .ok (.bipush (-2), 2) := by decide +kernel
theorem dX11_judge_12 : decode cX11_judge 12 = .ok (.ireturn, 1) := by decide +kernel
theorem dX11_judge_13 : decode cX11_judge 13 = .ok (.lconst 1, 1) := by decide +kernel
theorem dX11_judge_14 : decode cX11_judge 14 = .ok (.lstore 4, 2) := by decide +kernel
theorem dX11_judge_16 : decode cX11_judge 16 = .ok (.iconst 0, 1) := by decide +kernel
theorem dX11_judge_17 : decode cX11_judge 17 = .ok (.istore 6, 2) := by decide +kernel
theorem dX11_judge_19 : decode cX11_judge 19 = .ok (.iload 6, 2) := by decide +kernel
theorem dX11_judge_21 : decode cX11_judge 21 = .ok (.iload_n 1, 1) := by decide +kernel
theorem dX11_judge_22 : decode cX11_judge 22 = .ok (.if_icmp .ge 17, 3) := by decide +kernel
theorem dX11_judge_25 : decode cX11_judge 25 = .ok (.lload 4, 2) := by decide +kernel
theorem dX11_judge_27 : decode cX11_judge 27 = .ok (.ldc2_w 246, 3) := by decide +kernel
theorem dX11_judge_30 : decode cX11_judge 30 = .ok (.lmul, 1) := by decide +kernel
theorem dX11_judge_31 : decode cX11_judge 31 = .ok (.lstore 4, 2) := by decide +kernel
theorem dX11_judge_33 : decode cX11_judge 33 = .ok (.iinc 6 1, 3) := by decide +kernel
theorem dX11_judge_36 : decode cX11_judge 36 = .ok (.goto (-17), 3) := by decide +kernel
theorem dX11_judge_39 : decode cX11_judge 39 = .ok (.lload_n 2, 1) := by decide +kernel
theorem dX11_judge_40 : decode cX11_judge 40 = .ok (.lconst 0, 1) := by decide +kernel
theorem dX11_judge_41 : decode cX11_judge 41 = .ok (.lcmp, 1) := by decide +kernel
theorem dX11_judge_42 : decode cX11_judge 42 = .ok (.ifCond .lt 10, 3) := by decide +kernel
theorem dX11_judge_45 : decode cX11_judge 45 = .ok (.lload_n 2, 1) := by decide +kernel
theorem dX11_judge_46 : decode cX11_judge 46 = .ok (.lload 4, 2) := by decide +kernel
theorem dX11_judge_48 : decode cX11_judge 48 = .ok (.lcmp, 1) := by decide +kernel
theorem dX11_judge_49 : decode cX11_judge 49 = .ok (.ifCond .lt 6, 3) := by decide +kernel
theorem dX11_judge_52 : decode cX11_judge 52 = .ok (.bipush (-2), 2) := by decide +kernel
theorem dX11_judge_54 : decode cX11_judge 54 = .ok (.ireturn, 1) := by decide +kernel
theorem dX11_judge_55 : decode cX11_judge 55 = .ok (.aload_n 0, 1) := by decide +kernel
theorem dX11_judge_56 : decode cX11_judge 56 = .ok (.getfield 32, 3) := by decide +kernel
theorem dX11_judge_59 : decode cX11_judge 59 = .ok (.aload_n 0, 1) := by decide +kernel
theorem dX11_judge_60 : decode cX11_judge 60 = .ok (.getfield 28, 3) := by decide +kernel
theorem dX11_judge_63 : decode cX11_judge 63 = .ok (.invokevirtual 248, 3) := by decide +kernel
theorem dX11_judge_66 : decode cX11_judge 66 = .ok (.lload_n 2, 1) := by decide +kernel
theorem dX11_judge_67 : decode cX11_judge 67 = .ok (.lstore 6, 2) := by decide +kernel
theorem dX11_judge_69 : decode cX11_judge 69 = .ok (.iconst 0, 1) := by decide +kernel
theorem dX11_judge_70 : decode cX11_judge 70 = .ok (.istore 8, 2) := by decide +kernel
theorem dX11_judge_72 : decode cX11_judge 72 = .ok (.iload 8, 2) := by decide +kernel
theorem dX11_judge_74 : decode cX11_judge 74 = .ok (.iload_n 1, 1) := by decide +kernel
theorem dX11_judge_75 : decode cX11_judge 75 = .ok (.if_icmp .ge 40, 3) := by decide +kernel
theorem dX11_judge_78 : decode cX11_judge 78 = .ok (.lload 6, 2) := by decide +kernel
theorem dX11_judge_80 : decode cX11_judge 80 = .ok (.ldc2_w 246, 3) := by decide +kernel
theorem dX11_judge_83 : decode cX11_judge 83 = .ok (.lmul, 1) := by decide +kernel
theorem dX11_judge_84 : decode cX11_judge 84 = .ok (.lstore 6, 2) := by decide +kernel
theorem dX11_judge_86 : decode cX11_judge 86 = .ok (.aload_n 0, 1) := by decide +kernel
theorem dX11_judge_87 : decode cX11_judge 87 = .ok (.lload 6, 2) := by decide +kernel
theorem dX11_judge_89 : decode cX11_judge 89 = .ok (.lload 4, 2) := by decide +kernel
theorem dX11_judge_91 : decode cX11_judge 91 = .ok (.ldiv, 1) := by decide +kernel
theorem dX11_judge_92 : decode cX11_judge 92 = .ok (.l2i, 1) := by decide +kernel
theorem dX11_judge_93 : decode cX11_judge 93 = .ok (.invokevirtual 251, 3) := by decide +kernel
theorem dX11_judge_96 : decode cX11_judge 96 = .ok (.ifCond .ne 6, 3) := by decide +kernel
theorem dX11_judge_99 : decode cX11_judge 99 = .ok (.iload 8, 2) := by decide +kernel
theorem dX11_judge_101 : decode cX11_judge 101 = .ok (.ireturn, 1) := by decide +kernel
theorem dX11_judge_102 : decode cX11_judge 102 = .ok (.lload 6, 2) := by decide +kernel
theorem dX11_judge_104 : decode cX11_judge 104 = .ok (.lload 4, 2) := by decide +kernel
theorem dX11_judge_106 : decode cX11_judge 106 = .ok (.lrem, 1) := by decide +kernel
theorem dX11_judge_107 : decode cX11_judge 107 = .ok (.lstore 6, 2) := by decide +kernel
theorem dX11_judge_109 : decode cX11_judge 109 = .ok (.iinc 8 1, 3) := by decide +kernel
theorem dX11_judge_112 : decode cX11_judge 112 = .ok (.goto (-40), 3) := by decide +kernel
theorem dX11_judge_115 : decode cX11_judge 115 = .ok (.bipush (-9), 2) := by decide +kernel
theorem dX11_judge_117 : decode cX11_judge 117 = .ok (.ireturn, 1) := by decide +kernel
theorem dX11_see_0 : decode cX11_see 0 = .ok (.aload_n 0, 1) := by decide +kernel
theorem dX11_see_1 : decode cX11_see 1 = .ok (.getfield 12, 3) := by decide +kernel
theorem dX11_see_4 : decode cX11_see 4 = .ok (.iload_n 1, 1) := by decide +kernel
theorem dX11_see_5 : decode cX11_see 5 = .ok (.invokevirtual 152, 3) := by decide +kernel
theorem dX11_see_8 : decode cX11_see 8 = .ok (.ifCond .ne 5, 3) := by decide +kernel
theorem dX11_see_11 : decode cX11_see 11 = .ok (.iconst (-1), 1) := by decide +kernel
theorem dX11_see_12 : decode cX11_see 12 = .ok (.ireturn, 1) := by decide +kernel
theorem dX11_see_13 : decode cX11_see 13 = .ok (.iload_n 2, 1) := by decide +kernel
theorem dX11_see_14 : decode cX11_see 14 = .ok (.invokestatic 210, 3) := by decide +kernel
theorem dX11_see_17 : decode cX11_see 17 = .ok (.ifCond .eq 21, 3) := by decide +kernel
theorem dX11_see_20 : decode cX11_see 20 = .ok (.iload_n 3, 1) := by decide +kernel
theorem dX11_see_21 : decode cX11_see 21 = .ok (.invokestatic 213, 3) := by decide +kernel
theorem dX11_see_24 : decode cX11_see 24 = .ok (.ifCond .eq 14, 3) := by decide +kernel
theorem dX11_see_27 : decode cX11_see 27 = .ok (.iload 4, 2) := by decide +kernel
theorem dX11_see_29 : decode cX11_see 29 = .ok (.ifCond .lt 9, 3) := by decide +kernel
theorem dX11_see_32 : decode cX11_see 32 = .ok (.iload 4, 2) := by decide +kernel
theorem dX11_see_34 : decode cX11_see 34 = .ok (.iconst 1, 1) := by decide +kernel
theorem dX11_see_35 : decode cX11_see 35 = .ok (.if_icmp .le 6, 3) := by decide +kernel
theorem dX11_see_38 : decode cX11_see 38 = .ok (.bipush (-2), 2) := by decide +kernel
theorem dX11_see_40 : decode cX11_see 40 = .ok (.ireturn, 1) := by decide +kernel
theorem dX11_see_41 : decode cX11_see 41 = .ok (.aload_n 0, 1) := by decide +kernel
theorem dX11_see_42 : decode cX11_see 42 = .ok (.getfield 59, 3) := by decide +kernel
theorem dX11_see_45 : decode cX11_see 45 = .ok (.getfield 151, 3) := by decide +kernel
theorem dX11_see_48 : decode cX11_see 48 = .ok (.bipush 6, 2) := by decide +kernel
theorem dX11_see_50 : decode cX11_see 50 = .ok (.if_icmp .lt 6, 3) := by decide +kernel
theorem dX11_see_53 : decode cX11_see 53 = .ok (.bipush (-4), 2) := by decide +kernel
theorem dX11_see_55 : decode cX11_see 55 = .ok (.ireturn, 1) := by decide +kernel
theorem dX11_see_56 : decode cX11_see 56 = .ok (.aload_n 0, 1) := by decide +kernel
theorem dX11_see_57 : decode cX11_see 57 = .ok (.getfield 59, 3) := by decide +kernel
theorem dX11_see_60 : decode cX11_see 60 = .ok (.iload_n 1, 1) := by decide +kernel
theorem dX11_see_61 : decode cX11_see 61 = .ok (.iload_n 2, 1) := by decide +kernel
theorem dX11_see_62 : decode cX11_see 62 = .ok (.iload_n 3, 1) := by decide +kernel
theorem dX11_see_63 : decode cX11_see 63 = .ok (.invokestatic 216, 3) := by decide +kernel
theorem dX11_see_66 : decode cX11_see 66 = .ok (.iload 4, 2) := by decide +kernel
theorem dX11_see_68 : decode cX11_see 68 = .ok (.iconst 1, 1) := by decide +kernel
theorem dX11_see_69 : decode cX11_see 69 = .ok (.if_icmp .ne 7, 3) := by decide +kernel
theorem dX11_see_72 : decode cX11_see 72 = .ok (.iconst 1, 1) := by decide +kernel
theorem dX11_see_73 : decode cX11_see 73 = .ok (.goto 4, 3) := by decide +kernel
theorem dX11_see_76 : decode cX11_see 76 = .ok (.iconst 0, 1) := by decide +kernel
theorem dX11_see_77 : decode cX11_see 77 = .ok (.invokevirtual 254, 3) := by decide +kernel
theorem dX11_see_80 : decode cX11_see 80 = .ok (.aload_n 0, 1) := by decide +kernel
theorem dX11_see_81 : decode cX11_see 81 = .ok (.getfield 59, 3) := by decide +kernel
theorem dX11_see_84 : decode cX11_see 84 = .ok (.getfield 151, 3) := by decide +kernel
theorem dX11_see_87 : decode cX11_see 87 = .ok (.ireturn, 1) := by decide +kernel
theorem dX11_unsee_0 : decode cX11_unsee 0 = .ok (.aload_n 0, 1) := by decide +kernel
theorem dX11_unsee_1 : decode cX11_unsee 1 = .ok (.getfield 59, 3) := by decide +kernel
theorem dX11_unsee_4 : decode cX11_unsee 4 = .ok (.getfield 151, 3) := by decide +kernel
theorem dX11_unsee_7 : decode cX11_unsee 7 = .ok (.istore_n 1, 1) := by decide +kernel
theorem dX11_unsee_8 : decode cX11_unsee 8 = .ok (.aload_n 0, 1) := by decide +kernel
theorem dX11_unsee_9 : decode cX11_unsee 9 = .ok (.getfield 59, 3) := by decide +kernel
theorem dX11_unsee_12 : decode cX11_unsee 12 = .ok (.iconst 0, 1) := by decide +kernel
theorem dX11_unsee_13 : decode cX11_unsee 13 = .ok (.putfield 151, 3) := by decide +kernel
theorem dX11_unsee_16 : decode cX11_unsee 16 = .ok (.iload_n 1, 1) := by decide +kernel
theorem dX11_unsee_17 : decode cX11_unsee 17 = .ok (.ireturn, 1) := by decide +kernel
theorem dX11_which_0 : decode cX11_which 0 = .ok (.aload_n 0, 1) := by decide +kernel
theorem dX11_which_1 : decode cX11_which 1 = .ok (.getfield 66, 3) := by decide +kernel
theorem dX11_which_4 : decode cX11_which 4 = .ok (.aload_n 0, 1) := by decide +kernel
theorem dX11_which_5 : decode cX11_which 5 = .ok (.getfield 59, 3) := by decide +kernel
theorem dX11_which_8 : decode cX11_which 8 = .ok (.invokevirtual 257, 3) := by decide +kernel
theorem dX11_which_11 : decode cX11_which 11 = .ok (.ireturn, 1) := by decide +kernel
theorem dX11_share_0 : decode cX11_share 0 = .ok (.aload_n 0, 1) := by decide +kernel
theorem dX11_share_1 : decode cX11_share 1 = .ok (.getfield 12, 3) := by decide +kernel
theorem dX11_share_4 : decode cX11_share 4 = .ok (.iload_n 1, 1) := by decide +kernel
theorem dX11_share_5 : decode cX11_share 5 = .ok (.invokevirtual 170, 3) := by decide +kernel
theorem dX11_share_8 : decode cX11_share 8 = .ok (.ifCond .ne 5, 3) := by decide +kernel
theorem dX11_share_11 : decode cX11_share 11 = .ok (.iconst (-1), 1) := by decide +kernel
theorem dX11_share_12 : decode cX11_share 12 = .ok (.ireturn, 1) := by decide +kernel
theorem dX11_share_13 : decode cX11_share 13 = .ok (.aload_n 0, 1) := by decide +kernel
theorem dX11_share_14 : decode cX11_share 14 = .ok (.getfield 73, 3) := by decide +kernel
theorem dX11_share_17 : decode cX11_share 17 = .ok (.iload_n 1, 1) := by decide +kernel
theorem dX11_share_18 : decode cX11_share 18 = .ok (.iload_n 2, 1) := by decide +kernel
theorem dX11_share_19 : decode cX11_share 19 = .ok (.invokevirtual 261, 3) := by decide +kernel
theorem dX11_share_22 : decode cX11_share 22 = .ok (.ireturn, 1) := by decide +kernel
theorem dX11_chance_0 : decode cX11_chance 0 = .ok (.iload_n 1, 1) := by decide +kernel
theorem dX11_chance_1 : decode cX11_chance 1 = .ok (.ifCond .lt 20, 3) := by decide +kernel
theorem dX11_chance_4 : decode cX11_chance 4 = .ok (.iload_n 1, 1) := by decide +kernel
theorem dX11_chance_5 : decode cX11_chance 5 = .ok (.sipush 9999, 3) := by decide +kernel
theorem dX11_chance_8 : decode cX11_chance 8 = .ok (.if_icmp .gt 13, 3) := by decide +kernel
theorem dX11_chance_11 : decode cX11_chance 11 = .ok (.iload_n 2, 1) := by decide +kernel
theorem dX11_chance_12 : decode cX11_chance 12 = .ok (.ifCond .lt 9, 3) := by decide +kernel
theorem dX11_chance_15 : decode cX11_chance 15 = .ok (.iload_n 2, 1) := by decide +kernel
theorem dX11_chance_16 : decode cX11_chance 16 = .ok (.bipush 10, 2) := by decide +kernel
theorem dX11_chance_18 : decode cX11_chance 18 = .ok (.if_icmp .le 6, 3) := by decide +kernel
theorem dX11_chance_21 : decode cX11_chance 21 = .ok (.bipush (-2), 2) := by decide +kernel
theorem dX11_chance_23 : decode cX11_chance 23 = .ok (.ireturn, 1) := by decide +kernel
theorem dX11_chance_24 : decode cX11_chance 24 = .ok (.aload_n 0, 1) := by decide +kernel
theorem dX11_chance_25 : decode cX11_chance 25 = .ok (.getfield 73, 3) := by decide +kernel
theorem dX11_chance_28 : decode cX11_chance 28 = .ok (.iload_n 1, 1) := by decide +kernel
theorem dX11_chance_29 : decode cX11_chance 29 = .ok (.iload_n 2, 1) := by decide +kernel
theorem dX11_chance_30 : decode cX11_chance 30 = .ok (.iload_n 3, 1) := by decide +kernel
theorem dX11_chance_31 : decode cX11_chance 31 = .ok (.invokevirtual 265, 3) := by decide +kernel
theorem dX11_chance_34 : decode cX11_chance 34 = .ok (.ireturn, 1) := by decide +kernel
theorem dX11_seed_0 : decode cX11_seed 0 = .ok (.aload_n 0, 1) := by decide +kernel
theorem dX11_seed_1 : decode cX11_seed 1 = .ok (.getfield 77, 3) := by decide +kernel
theorem dX11_seed_4 : decode cX11_seed 4 = .ok (.lstore_n 3, 1) := by decide +kernel
theorem dX11_seed_5 : decode cX11_seed 5 = .ok (.aload_n 0, 1) := by decide +kernel
theorem dX11_seed_6 : decode cX11_seed 6 = .ok (.lload_n 1, 1) := by decide +kernel
theorem dX11_seed_7 : decode cX11_seed 7 = .ok (.putfield 77, 3) := by decide +kernel
theorem dX11_seed_10 : decode cX11_seed 10 = .ok (.lload_n 3, 1) := by decide +kernel
theorem dX11_seed_11 : decode cX11_seed 11 = .ok (.lreturn, 1) := by decide +kernel
theorem dX11_drawn_0 : decode cX11_drawn 0 = .ok (.iload_n 1, 1) := by decide +kernel
theorem dX11_drawn_1 : decode cX11_drawn 1 = .ok (.iconst 1, 1) := by decide +kernel
theorem dX11_drawn_2 : decode cX11_drawn 2 = .ok (.if_icmp .lt 9, 3) := by decide +kernel
theorem dX11_drawn_5 : decode cX11_drawn 5 = .ok (.iload_n 1, 1) := by decide +kernel
theorem dX11_drawn_6 : decode cX11_drawn 6 = .ok (.bipush 10, 2) := by decide +kernel
theorem dX11_drawn_8 : decode cX11_drawn 8 = .ok (.if_icmp .le 6, 3) := by decide +kernel
theorem dX11_drawn_11 : decode cX11_drawn 11 = .ok (.bipush (-2), 2) := by decide +kernel
theorem dX11_drawn_13 : decode cX11_drawn 13 = .ok (.ireturn, 1) := by decide +kernel
theorem dX11_drawn_14 : decode cX11_drawn 14 = .ok (.aload_n 0, 1) := by decide +kernel
theorem dX11_drawn_15 : decode cX11_drawn 15 = .ok (.getfield 32, 3) := by decide +kernel
theorem dX11_drawn_18 : decode cX11_drawn 18 = .ok (.aload_n 0, 1) := by decide +kernel
theorem dX11_drawn_19 : decode cX11_drawn 19 = .ok (.getfield 28, 3) := by decide +kernel
theorem dX11_drawn_22 : decode cX11_drawn 22 = .ok (.invokevirtual 248, 3) := by decide +kernel
theorem dX11_drawn_25 : decode cX11_drawn 25 = .ok (.iconst 0, 1) := by decide +kernel
theorem dX11_drawn_26 : decode cX11_drawn 26 = .ok (.istore_n 2, 1) := by decide +kernel
theorem dX11_drawn_27 : decode cX11_drawn 27 = .ok (.iconst 0, 1) := by decide +kernel
theorem dX11_drawn_28 : decode cX11_drawn 28 = .ok (.istore_n 3, 1) := by decide +kernel
theorem dX11_drawn_29 : decode cX11_drawn 29 = .ok (.iload_n 3, 1) := by decide +kernel
theorem dX11_drawn_30 : decode cX11_drawn 30 = .ok (.iload_n 1, 1) := by decide +kernel
theorem dX11_drawn_31 : decode cX11_drawn 31 = .ok (.if_icmp .ge 50, 3) := by decide +kernel
theorem dX11_drawn_34 : decode cX11_drawn 34 = .ok (.aload_n 0, 1) := by decide +kernel
theorem dX11_drawn_35 : decode cX11_drawn 35 = .ok (.aload_n 0, 1) := by decide +kernel
theorem dX11_drawn_36 : decode cX11_drawn 36 = .ok (.getfield 77, 3) := by decide +kernel
theorem dX11_drawn_39 : decode cX11_drawn 39 = .ok (.ldc2_w 269, 3) := by decide +kernel
theorem dX11_drawn_42 : decode cX11_drawn 42 = .ok (.lmul, 1) := by decide +kernel
theorem dX11_drawn_43 : decode cX11_drawn 43 = .ok (.ldc2_w 271, 3) := by decide +kernel
theorem dX11_drawn_46 : decode cX11_drawn 46 = .ok (.ladd, 1) := by decide +kernel
theorem dX11_drawn_47 : decode cX11_drawn 47 = .ok (.putfield 77, 3) := by decide +kernel
theorem dX11_drawn_50 : decode cX11_drawn 50 = .ok (.aload_n 0, 1) := by decide +kernel
theorem dX11_drawn_51 : decode cX11_drawn 51 = .ok (.aload_n 0, 1) := by decide +kernel
theorem dX11_drawn_52 : decode cX11_drawn 52 = .ok (.getfield 77, 3) := by decide +kernel
theorem dX11_drawn_55 : decode cX11_drawn 55 = .ok (.bipush 33, 2) := by decide +kernel
theorem dX11_drawn_57 : decode cX11_drawn 57 = .ok (.lushr, 1) := by decide +kernel
theorem dX11_drawn_58 : decode cX11_drawn 58 = .ok (.l2i, 1) := by decide +kernel
theorem dX11_drawn_59 : decode cX11_drawn 59 = .ok (.invokevirtual 273, 3) := by decide +kernel
theorem dX11_drawn_62 : decode cX11_drawn 62 = .ok (.iload_n 2, 1) := by decide +kernel
theorem dX11_drawn_63 : decode cX11_drawn 63 = .ok (.aload_n 0, 1) := by decide +kernel
theorem dX11_drawn_64 : decode cX11_drawn 64 = .ok (.getfield 32, 3) := by decide +kernel
theorem dX11_drawn_67 : decode cX11_drawn 67 = .ok (.getfield 115, 3) := by decide +kernel
theorem dX11_drawn_70 : decode cX11_drawn 70 = .ok (.getfield 119, 3) := by decide +kernel
theorem dX11_drawn_73 : decode cX11_drawn 73 = .ok (.iadd, 1) := by decide +kernel
theorem dX11_drawn_74 : decode cX11_drawn 74 = .ok (.istore_n 2, 1) := by decide +kernel
theorem dX11_drawn_75 : decode cX11_drawn 75 = .ok (.iinc 3 1, 3) := by decide +kernel
theorem dX11_drawn_78 : decode cX11_drawn 78 = .ok (.goto (-49), 3) := by decide +kernel
theorem dX11_drawn_81 : decode cX11_drawn 81 = .ok (.iload_n 2, 1) := by decide +kernel
theorem dX11_drawn_82 : decode cX11_drawn 82 = .ok (.ireturn, 1) := by decide +kernel
theorem dX11_keep_0 : decode cX11_keep 0 = .ok (.aload_n 0, 1) := by decide +kernel
theorem dX11_keep_1 : decode cX11_keep 1 = .ok (.getfield 52, 3) := by decide +kernel
theorem dX11_keep_4 : decode cX11_keep 4 = .ok (.iload_n 1, 1) := by decide +kernel
theorem dX11_keep_5 : decode cX11_keep 5 = .ok (.invokevirtual 276, 3) := by decide +kernel
theorem dX11_keep_8 : decode cX11_keep 8 = .ok (.ifCond .ne 5, 3) := by decide +kernel
theorem dX11_keep_11 : decode cX11_keep 11 = .ok (.iconst (-1), 1) := by decide +kernel
theorem dX11_keep_12 : decode cX11_keep 12 = .ok (.ireturn, 1) := by decide +kernel
theorem dX11_keep_13 : decode cX11_keep 13 = .ok (.aload_n 0, 1) := by decide +kernel
theorem dX11_keep_14 : decode cX11_keep 14 = .ok (.getfield 52, 3) := by decide +kernel
theorem dX11_keep_17 : decode cX11_keep 17 = .ok (.iload_n 1, 1) := by decide +kernel
theorem dX11_keep_18 : decode cX11_keep 18 = .ok (.aload_n 0, 1) := by decide +kernel
theorem dX11_keep_19 : decode cX11_keep 19 = .ok (.getfield 28, 3) := by decide +kernel
theorem dX11_keep_22 : decode cX11_keep 22 = .ok (.invokevirtual 277, 3) := by decide +kernel
theorem dX11_keep_25 : decode cX11_keep 25 = .ok (.aload_n 0, 1) := by decide +kernel
theorem dX11_keep_26 : decode cX11_keep 26 = .ok (.getfield 28, 3) := by decide +kernel
theorem dX11_keep_29 : decode cX11_keep 29 = .ok (.getfield 115, 3) := by decide +kernel
theorem dX11_keep_32 : decode cX11_keep 32 = .ok (.getfield 119, 3) := by decide +kernel
theorem dX11_keep_35 : decode cX11_keep 35 = .ok (.ireturn, 1) := by decide +kernel
theorem dX11_again_0 : decode cX11_again 0 = .ok (.aload_n 0, 1) := by decide +kernel
theorem dX11_again_1 : decode cX11_again 1 = .ok (.getfield 52, 3) := by decide +kernel
theorem dX11_again_4 : decode cX11_again 4 = .ok (.iload_n 1, 1) := by decide +kernel
theorem dX11_again_5 : decode cX11_again 5 = .ok (.invokevirtual 276, 3) := by decide +kernel
theorem dX11_again_8 : decode cX11_again 8 = .ok (.ifCond .ne 5, 3) := by decide +kernel
theorem dX11_again_11 : decode cX11_again 11 = .ok (.iconst (-1), 1) := by decide +kernel
theorem dX11_again_12 : decode cX11_again 12 = .ok (.ireturn, 1) := by decide +kernel
theorem dX11_again_13 : decode cX11_again 13 = .ok (.aload_n 0, 1) := by decide +kernel
theorem dX11_again_14 : decode cX11_again 14 = .ok (.getfield 52, 3) := by decide +kernel
theorem dX11_again_17 : decode cX11_again 17 = .ok (.getfield 280, 3) := by decide +kernel
theorem dX11_again_20 : decode cX11_again 20 = .ok (.iload_n 1, 1) := by decide +kernel
theorem dX11_again_21 : decode cX11_again 21 = .ok (.baload, 1) := by decide +kernel
theorem dX11_again_22 : decode cX11_again 22 = .ok (.ifCond .ne 6, 3) := by decide +kernel
theorem dX11_again_25 : decode cX11_again 25 = .ok (.bipush (-3), 2) := by decide +kernel
theorem dX11_again_27 : decode cX11_again 27 = .ok (.ireturn, 1) := by decide +kernel
theorem dX11_again_28 : decode cX11_again 28 = .ok (.aload_n 0, 1) := by decide +kernel
theorem dX11_again_29 : decode cX11_again 29 = .ok (.getfield 28, 3) := by decide +kernel
theorem dX11_again_32 : decode cX11_again 32 = .ok (.aload_n 0, 1) := by decide +kernel
theorem dX11_again_33 : decode cX11_again 33 = .ok (.getfield 52, 3) := by decide +kernel
theorem dX11_again_36 : decode cX11_again 36 = .ok (.getfield 284, 3) := by decide +kernel
theorem dX11_again_39 : decode cX11_again 39 = .ok (.iload_n 1, 1) := by decide +kernel
theorem dX11_again_40 : decode cX11_again 40 = .ok (.aaload, 1) := by decide +kernel
theorem dX11_again_41 : decode cX11_again 41 = .ok (.invokevirtual 248, 3) := by decide +kernel
theorem dX11_again_44 : decode cX11_again 44 = .ok (.aload_n 0, 1) := by decide +kernel
theorem dX11_again_45 : decode cX11_again 45 = .ok (.getfield 45, 3) := by decide +kernel
theorem dX11_again_48 : decode cX11_again 48 = .ok (.iconst 0, 1) := by decide +kernel
theorem dX11_again_49 : decode cX11_again 49 = .ok (.putfield 100, 3) := by decide +kernel
theorem dX11_again_52 : decode cX11_again 52 = .ok (.aload_n 0, 1) := by decide +kernel
theorem dX11_again_53 : decode cX11_again 53 = .ok (.getfield 28, 3) := by decide +kernel
theorem dX11_again_56 : decode cX11_again 56 = .ok (.getfield 115, 3) := by decide +kernel
theorem dX11_again_59 : decode cX11_again 59 = .ok (.getfield 119, 3) := by decide +kernel
theorem dX11_again_62 : decode cX11_again 62 = .ok (.ireturn, 1) := by decide +kernel
theorem dX11_oneStep_0 : decode cX11_oneStep 0 = .ok (.aload_n 0, 1) := by decide +kernel
theorem dX11_oneStep_1 : decode cX11_oneStep 1 = .ok (.getfield 28, 3) := by decide +kernel
theorem dX11_oneStep_4 : decode cX11_oneStep 4 = .ok (.invokevirtual 230, 3) := by decide +kernel
theorem dX11_oneStep_7 : decode cX11_oneStep 7 = .ok (.ifCond .eq 17, 3) := by decide +kernel
theorem dX11_oneStep_10 : decode cX11_oneStep 10 = .ok (.aload_n 0, 1) := by decide +kernel
theorem dX11_oneStep_11 : decode cX11_oneStep 11 = .ok (.getfield 38, 3) := by decide +kernel
theorem dX11_oneStep_14 : decode cX11_oneStep 14 = .ok (.aload_n 0, 1) := by decide +kernel
theorem dX11_oneStep_15 : decode cX11_oneStep 15 = .ok (.getfield 28, 3) := by decide +kernel
theorem dX11_oneStep_18 : decode cX11_oneStep 18 = .ok (.invokevirtual 233, 3) := by decide +kernel
theorem dX11_oneStep_21 : decode cX11_oneStep 21 = .ok (.pop, 1) := by decide +kernel
theorem dX11_oneStep_22 : decode cX11_oneStep 22 = .ok (.iconst 1, 1) := by decide +kernel
theorem dX11_oneStep_23 : decode cX11_oneStep 23 = .ok (.ireturn, 1) := by decide +kernel
theorem dX11_oneStep_24 : decode cX11_oneStep 24 = .ok (.aload_n 0, 1) := by decide +kernel
theorem dX11_oneStep_25 : decode cX11_oneStep 25 = .ok (.getfield 28, 3) := by decide +kernel
theorem dX11_oneStep_28 : decode cX11_oneStep 28 = .ok (.getfield 115, 3) := by decide +kernel
theorem dX11_oneStep_31 : decode cX11_oneStep 31 = .ok (.invokevirtual 288, 3) := by decide +kernel
theorem dX11_oneStep_34 : decode cX11_oneStep 34 = .ok (.istore_n 1, 1) := by decide +kernel
theorem dX11_oneStep_35 : decode cX11_oneStep 35 = .ok (.iload_n 1, 1) := by decide +kernel
theorem dX11_oneStep_36 : decode cX11_oneStep 36 = .ok (.bipush (-9), 2) := by decide +kernel
theorem dX11_oneStep_38 : decode cX11_oneStep 38 = .ok (.if_icmp .eq 34, 3) := by decide +kernel
theorem dX11_oneStep_41 : decode cX11_oneStep 41 = .ok (.aload_n 0, 1) := by decide +kernel
theorem dX11_oneStep_42 : decode cX11_oneStep 42 = .ok (.getfield 28, 3) := by decide +kernel
theorem dX11_oneStep_45 : decode cX11_oneStep 45 = .ok (.iload_n 1, 1) := by decide +kernel
theorem dX11_oneStep_46 : decode cX11_oneStep 46 = .ok (.iconst 1, 1) := by decide +kernel
theorem dX11_oneStep_47 : decode cX11_oneStep 47 = .ok (.aload_n 0, 1) := by decide +kernel
theorem dX11_oneStep_48 : decode cX11_oneStep 48 = .ok (.getfield 28, 3) := by decide +kernel
theorem dX11_oneStep_51 : decode cX11_oneStep 51 = .ok (.getfield 115, 3) := by decide +kernel
theorem dX11_oneStep_54 : decode cX11_oneStep 54 = .ok (.getfield 156, 3) := by decide +kernel
theorem dX11_oneStep_57 : decode cX11_oneStep 57 = .ok (.iload_n 1, 1) := by decide +kernel
theorem dX11_oneStep_58 : decode cX11_oneStep 58 = .ok (.iaload, 1) := by decide +kernel
theorem dX11_oneStep_59 : decode cX11_oneStep 59 = .ok (.invokestatic 216, 3) := by decide +kernel
theorem dX11_oneStep_62 : decode cX11_oneStep 62 = .ok (.invokevirtual 227, 3) := by decide +kernel
theorem dX11_oneStep_65 : decode cX11_oneStep 65 = .ok (.ifCond .eq 7, 3) := by decide +kernel
theorem dX11_oneStep_68 : decode cX11_oneStep 68 = .ok (.iconst 1, 1) := by decide +kernel
theorem dX11_oneStep_69 : decode cX11_oneStep 69 = .ok (.goto 4, 3) := by decide +kernel
theorem dX11_oneStep_72 : decode cX11_oneStep 72 = .ok (.iconst 0, 1) := by decide +kernel
theorem dX11_oneStep_73 : decode cX11_oneStep 73 = .ok (.ireturn, 1) := by decide +kernel
theorem dX11_canBe_0 : decode cX11_canBe 0 = .ok (.iload_n 1, 1) := by decide +kernel
theorem dX11_canBe_1 : decode cX11_canBe 1 = .ok (.bipush 10, 2) := by decide +kernel
theorem dX11_canBe_3 : decode cX11_canBe 3 = .ok (.idiv, 1) := by decide +kernel
theorem dX11_canBe_4 : decode cX11_canBe 4 = .ok (.bipush 10, 2) := by decide +kernel
theorem dX11_canBe_6 : decode cX11_canBe 6 = .ok (.irem, 1) := by decide +kernel
theorem dX11_canBe_7 : decode cX11_canBe 7 = .ok (.istore_n 2, 1) := by decide +kernel
theorem dX11_canBe_8 : decode cX11_canBe 8 = .ok (.iload_n 1, 1) := by decide +kernel
theorem dX11_canBe_9 : decode cX11_canBe 9 = .ok (.bipush 10, 2) := by decide +kernel
theorem dX11_canBe_11 : decode cX11_canBe 11 = .ok (.irem, 1) := by decide +kernel
theorem dX11_canBe_12 : decode cX11_canBe 12 = .ok (.istore_n 3, 1) := by decide +kernel
theorem dX11_canBe_13 : decode cX11_canBe 13 = .ok (.iload_n 1, 1) := by decide +kernel
theorem dX11_canBe_14 : decode cX11_canBe 14 = .ok (.bipush 100, 2) := by decide +kernel
theorem dX11_canBe_16 : decode cX11_canBe 16 = .ok (.idiv, 1) := by decide +kernel
theorem dX11_canBe_17 : decode cX11_canBe 17 = .ok (.tableswitch 220 1 7 #[43, 57, 71, 108, 131, 164, 197], 43) := by decide +kernel
theorem dX11_canBe_60 : decode cX11_canBe 60 = .ok (.aload_n 0, 1) := by decide +kernel
theorem dX11_canBe_61 : decode cX11_canBe 61 = .ok (.getfield 32, 3) := by decide +kernel
theorem dX11_canBe_64 : decode cX11_canBe 64 = .ok (.iload_n 2, 1) := by decide +kernel
theorem dX11_canBe_65 : decode cX11_canBe 65 = .ok (.iconst 0, 1) := by decide +kernel
theorem dX11_canBe_66 : decode cX11_canBe 66 = .ok (.iload_n 3, 1) := by decide +kernel
theorem dX11_canBe_67 : decode cX11_canBe 67 = .ok (.invokestatic 216, 3) := by decide +kernel
theorem dX11_canBe_70 : decode cX11_canBe 70 = .ok (.invokevirtual 227, 3) := by decide +kernel
theorem dX11_canBe_73 : decode cX11_canBe 73 = .ok (.ireturn, 1) := by decide +kernel
theorem dX11_canBe_74 : decode cX11_canBe 74 = .ok (.aload_n 0, 1) := by decide +kernel
theorem dX11_canBe_75 : decode cX11_canBe 75 = .ok (.getfield 32, 3) := by decide +kernel
theorem dX11_canBe_78 : decode cX11_canBe 78 = .ok (.iload_n 2, 1) := by decide +kernel
theorem dX11_canBe_79 : decode cX11_canBe 79 = .ok (.iconst 1, 1) := by decide +kernel
theorem dX11_canBe_80 : decode cX11_canBe 80 = .ok (.iload_n 3, 1) := by decide +kernel
theorem dX11_canBe_81 : decode cX11_canBe 81 = .ok (.invokestatic 216, 3) := by decide +kernel
theorem dX11_canBe_84 : decode cX11_canBe 84 = .ok (.invokevirtual 227, 3) := by decide +kernel
theorem dX11_canBe_87 : decode cX11_canBe 87 = .ok (.ireturn, 1) := by decide +kernel
theorem dX11_canBe_88 : decode cX11_canBe 88 = .ok (.iload_n 1, 1) := by decide +kernel
theorem dX11_canBe_89 : decode cX11_canBe 89 = .ok (.sipush 300, 3) := by decide +kernel
theorem dX11_canBe_92 : decode cX11_canBe 92 = .ok (.if_icmp .ne 31, 3) := by decide +kernel
theorem dX11_canBe_95 : decode cX11_canBe 95 = .ok (.aload_n 0, 1) := by decide +kernel
theorem dX11_canBe_96 : decode cX11_canBe 96 = .ok (.getfield 32, 3) := by decide +kernel
theorem dX11_canBe_99 : decode cX11_canBe 99 = .ok (.invokevirtual 230, 3) := by decide +kernel
theorem dX11_canBe_102 : decode cX11_canBe 102 = .ok (.ifCond .eq 21, 3) := by decide +kernel
theorem dX11_canBe_105 : decode cX11_canBe 105 = .ok (.aload_n 0, 1) := by decide +kernel
theorem dX11_canBe_106 : decode cX11_canBe 106 = .ok (.getfield 38, 3) := by decide +kernel
theorem dX11_canBe_109 : decode cX11_canBe 109 = .ok (.aload_n 0, 1) := by decide +kernel
theorem dX11_canBe_110 : decode cX11_canBe 110 = .ok (.getfield 32, 3) := by decide +kernel
theorem dX11_canBe_113 : decode cX11_canBe 113 = .ok (.invokevirtual 233, 3) := by decide +kernel
theorem dX11_canBe_116 : decode cX11_canBe 116 = .ok (.ifCond .lt 7, 3) := by decide +kernel
theorem dX11_canBe_119 : decode cX11_canBe 119 = .ok (.iconst 1, 1) := by decide +kernel
theorem dX11_canBe_120 : decode cX11_canBe 120 = .ok (.goto 4, 3) := by decide +kernel
theorem dX11_canBe_123 : decode cX11_canBe 123 = .ok (.iconst 0, 1) := by decide +kernel
theorem dX11_canBe_124 : decode cX11_canBe 124 = .ok (.ireturn, 1) := by decide +kernel
theorem dX11_canBe_125 : decode cX11_canBe 125 = .ok (.aload_n 0, 1) := by decide +kernel
theorem dX11_canBe_126 : decode cX11_canBe 126 = .ok (.getfield 32, 3) := by decide +kernel
theorem dX11_canBe_129 : decode cX11_canBe 129 = .ok (.getfield 115, 3) := by decide +kernel
theorem dX11_canBe_132 : decode cX11_canBe 132 = .ok (.getfield 119, 3) := by decide +kernel
theorem dX11_canBe_135 : decode cX11_canBe 135 = .ok (.iload_n 1, 1) := by decide +kernel
theorem dX11_canBe_136 : decode cX11_canBe 136 = .ok (.bipush 100, 2) := by decide +kernel
theorem dX11_canBe_138 : decode cX11_canBe 138 = .ok (.irem, 1) := by decide +kernel
theorem dX11_canBe_139 : decode cX11_canBe 139 = .ok (.if_icmp .ne 7, 3) := by decide +kernel
theorem dX11_canBe_142 : decode cX11_canBe 142 = .ok (.iconst 1, 1) := by decide +kernel
theorem dX11_canBe_143 : decode cX11_canBe 143 = .ok (.goto 4, 3) := by decide +kernel
theorem dX11_canBe_146 : decode cX11_canBe 146 = .ok (.iconst 0, 1) := by decide +kernel
theorem dX11_canBe_147 : decode cX11_canBe 147 = .ok (.ireturn, 1) := by decide +kernel
theorem dX11_canBe_148 : decode cX11_canBe 148 = .ok (.aload_n 0, 1) := by decide +kernel
theorem dX11_canBe_149 : decode cX11_canBe 149 = .ok (.getfield 12, 3) := by decide +kernel
theorem dX11_canBe_152 : decode cX11_canBe 152 = .ok (.iload_n 2, 1) := by decide +kernel
theorem dX11_canBe_153 : decode cX11_canBe 153 = .ok (.invokevirtual 152, 3) := by decide +kernel
theorem dX11_canBe_156 : decode cX11_canBe 156 = .ok (.ifCond .eq 23, 3) := by decide +kernel
theorem dX11_canBe_159 : decode cX11_canBe 159 = .ok (.aload_n 0, 1) := by decide +kernel
theorem dX11_canBe_160 : decode cX11_canBe 160 = .ok (.getfield 32, 3) := by decide +kernel
theorem dX11_canBe_163 : decode cX11_canBe 163 = .ok (.getfield 115, 3) := by decide +kernel
theorem dX11_canBe_166 : decode cX11_canBe 166 = .ok (.getfield 156, 3) := by decide +kernel
theorem dX11_canBe_169 : decode cX11_canBe 169 = .ok (.iload_n 2, 1) := by decide +kernel
theorem dX11_canBe_170 : decode cX11_canBe 170 = .ok (.iaload, 1) := by decide +kernel
theorem dX11_canBe_171 : decode cX11_canBe 171 = .ok (.iload_n 3, 1) := by decide +kernel
theorem dX11_canBe_172 : decode cX11_canBe 172 = .ok (.if_icmp .ne 7, 3) := by decide +kernel
theorem dX11_canBe_175 : decode cX11_canBe 175 = .ok (.iconst 1, 1) := by decide +kernel
theorem dX11_canBe_176 : decode cX11_canBe 176 = .ok (.goto 4, 3) := by decide +kernel
theorem dX11_canBe_179 : decode cX11_canBe 179 = .ok (.iconst 0, 1) := by decide +kernel
theorem dX11_canBe_180 : decode cX11_canBe 180 = .ok (.ireturn, 1) := by decide +kernel
theorem dX11_canBe_181 : decode cX11_canBe 181 = .ok (.aload_n 0, 1) := by decide +kernel
theorem dX11_canBe_182 : decode cX11_canBe 182 = .ok (.getfield 12, 3) := by decide +kernel
theorem dX11_canBe_185 : decode cX11_canBe 185 = .ok (.iload_n 2, 1) := by decide +kernel
theorem dX11_canBe_186 : decode cX11_canBe 186 = .ok (.invokevirtual 152, 3) := by decide +kernel
theorem dX11_canBe_189 : decode cX11_canBe 189 = .ok (.ifCond .eq 23, 3) := by decide +kernel
theorem dX11_canBe_192 : decode cX11_canBe 192 = .ok (.aload_n 0, 1) := by decide +kernel
theorem dX11_canBe_193 : decode cX11_canBe 193 = .ok (.getfield 32, 3) := by decide +kernel
theorem dX11_canBe_196 : decode cX11_canBe 196 = .ok (.getfield 115, 3) := by decide +kernel
theorem dX11_canBe_199 : decode cX11_canBe 199 = .ok (.getfield 160, 3) := by decide +kernel
theorem dX11_canBe_202 : decode cX11_canBe 202 = .ok (.iload_n 2, 1) := by decide +kernel
theorem dX11_canBe_203 : decode cX11_canBe 203 = .ok (.iaload, 1) := by decide +kernel
theorem dX11_canBe_204 : decode cX11_canBe 204 = .ok (.iload_n 3, 1) := by decide +kernel
theorem dX11_canBe_205 : decode cX11_canBe 205 = .ok (.if_icmp .ne 7, 3) := by decide +kernel
theorem dX11_canBe_208 : decode cX11_canBe 208 = .ok (.iconst 1, 1) := by decide +kernel
theorem dX11_canBe_209 : decode cX11_canBe 209 = .ok (.goto 4, 3) := by decide +kernel
theorem dX11_canBe_212 : decode cX11_canBe 212 = .ok (.iconst 0, 1) := by decide +kernel
theorem dX11_canBe_213 : decode cX11_canBe 213 = .ok (.ireturn, 1) := by decide +kernel
theorem dX11_canBe_214 : decode cX11_canBe 214 = .ok (.aload_n 0, 1) := by decide +kernel
theorem dX11_canBe_215 : decode cX11_canBe 215 = .ok (.getfield 32, 3) := by decide +kernel
theorem dX11_canBe_218 : decode cX11_canBe 218 = .ok (.getfield 130, 3) := by decide +kernel
theorem dX11_canBe_221 : decode cX11_canBe 221 = .ok (.getfield 134, 3) := by decide +kernel
theorem dX11_canBe_224 : decode cX11_canBe 224 = .ok (.iload_n 1, 1) := by decide +kernel
theorem dX11_canBe_225 : decode cX11_canBe 225 = .ok (.bipush 100, 2) := by decide +kernel
theorem dX11_canBe_227 : decode cX11_canBe 227 = .ok (.irem, 1) := by decide +kernel
theorem dX11_canBe_228 : decode cX11_canBe 228 = .ok (.if_icmp .ne 7, 3) := by decide +kernel
theorem dX11_canBe_231 : decode cX11_canBe 231 = .ok (.iconst 1, 1) := by decide +kernel
theorem dX11_canBe_232 : decode cX11_canBe 232 = .ok (.goto 4, 3) := by decide +kernel
theorem dX11_canBe_235 : decode cX11_canBe 235 = .ok (.iconst 0, 1) := by decide +kernel
theorem dX11_canBe_236 : decode cX11_canBe 236 = .ok (.ireturn, 1) := by decide +kernel
theorem dX11_canBe_237 : decode cX11_canBe 237 = .ok (.iconst 0, 1) := by decide +kernel
theorem dX11_canBe_238 : decode cX11_canBe 238 = .ok (.ireturn, 1) := by decide +kernel
theorem dX11_drawOnTrial_0 : decode cX11_drawOnTrial 0 = .ok (.aload_n 0, 1) := by decide +kernel
theorem dX11_drawOnTrial_1 : decode cX11_drawOnTrial 1 = .ok (.getfield 32, 3) := by decide +kernel
theorem dX11_drawOnTrial_4 : decode cX11_drawOnTrial 4 = .ok (.invokevirtual 230, 3) := by decide +kernel
theorem dX11_drawOnTrial_7 : decode cX11_drawOnTrial 7 = .ok (.ifCond .eq 18, 3) := by decide +kernel
theorem dX11_drawOnTrial_10 : decode cX11_drawOnTrial 10 = .ok (.aload_n 0, 1) := by decide +kernel
theorem dX11_drawOnTrial_11 : decode cX11_drawOnTrial 11 = .ok (.getfield 38, 3) := by decide +kernel
theorem dX11_drawOnTrial_14 : decode cX11_drawOnTrial 14 = .ok (.aload_n 0, 1) := by decide +kernel
theorem dX11_drawOnTrial_15 : decode cX11_drawOnTrial 15 = .ok (.getfield 32, 3) := by decide +kernel
theorem dX11_drawOnTrial_18 : decode cX11_drawOnTrial 18 = .ok (.invokevirtual 233, 3) := by decide +kernel
theorem dX11_drawOnTrial_21 : decode cX11_drawOnTrial 21 = .ok (.pop, 1) := by decide +kernel
theorem dX11_drawOnTrial_22 : decode cX11_drawOnTrial 22 = .ok (.goto 45, 3) := by decide +kernel
theorem dX11_drawOnTrial_25 : decode cX11_drawOnTrial 25 = .ok (.aload_n 0, 1) := by decide +kernel
theorem dX11_drawOnTrial_26 : decode cX11_drawOnTrial 26 = .ok (.getfield 12, 3) := by decide +kernel
theorem dX11_drawOnTrial_29 : decode cX11_drawOnTrial 29 = .ok (.getfield 112, 3) := by decide +kernel
theorem dX11_drawOnTrial_32 : decode cX11_drawOnTrial 32 = .ok (.ifCond .le 35, 3) := by decide +kernel
theorem dX11_drawOnTrial_35 : decode cX11_drawOnTrial 35 = .ok (.aload_n 0, 1) := by decide +kernel
theorem dX11_drawOnTrial_36 : decode cX11_drawOnTrial 36 = .ok (.getfield 32, 3) := by decide +kernel
theorem dX11_drawOnTrial_39 : decode cX11_drawOnTrial 39 = .ok (.iload_n 1, 1) := by decide +kernel
theorem dX11_drawOnTrial_40 : decode cX11_drawOnTrial 40 = .ok (.aload_n 0, 1) := by decide +kernel
theorem dX11_drawOnTrial_41 : decode cX11_drawOnTrial 41 = .ok (.getfield 12, 3) := by decide +kernel
theorem dX11_drawOnTrial_44 : decode cX11_drawOnTrial 44 = .ok (.getfield 112, 3) := by decide +kernel
theorem dX11_drawOnTrial_47 : decode cX11_drawOnTrial 47 = .ok (.irem, 1) := by decide +kernel
theorem dX11_drawOnTrial_48 : decode cX11_drawOnTrial 48 = .ok (.iload_n 1, 1) := by decide +kernel
theorem dX11_drawOnTrial_49 : decode cX11_drawOnTrial 49 = .ok (.iconst 4, 1) := by decide +kernel
theorem dX11_drawOnTrial_50 : decode cX11_drawOnTrial 50 = .ok (.idiv, 1) := by decide +kernel
theorem dX11_drawOnTrial_51 : decode cX11_drawOnTrial 51 = .ok (.iconst 2, 1) := by decide +kernel
theorem dX11_drawOnTrial_52 : decode cX11_drawOnTrial 52 = .ok (.irem, 1) := by decide +kernel
theorem dX11_drawOnTrial_53 : decode cX11_drawOnTrial 53 = .ok (.iload_n 1, 1) := by decide +kernel
theorem dX11_drawOnTrial_54 : decode cX11_drawOnTrial 54 = .ok (.bipush 8, 2) := by decide +kernel
theorem dX11_drawOnTrial_56 : decode cX11_drawOnTrial 56 = .ok (.idiv, 1) := by decide +kernel
theorem dX11_drawOnTrial_57 : decode cX11_drawOnTrial 57 = .ok (.bipush 10, 2) := by decide +kernel
theorem dX11_drawOnTrial_59 : decode cX11_drawOnTrial 59 = .ok (.irem, 1) := by decide +kernel
theorem dX11_drawOnTrial_60 : decode cX11_drawOnTrial 60 = .ok (.invokestatic 216, 3) := by decide +kernel
theorem dX11_drawOnTrial_63 : decode cX11_drawOnTrial 63 = .ok (.invokevirtual 227, 3) := by decide +kernel
theorem dX11_drawOnTrial_66 : decode cX11_drawOnTrial 66 = .ok (.pop, 1) := by decide +kernel
theorem dX11_drawOnTrial_67 : decode cX11_drawOnTrial 67 = .ok (.return_, 1) := by decide +kernel
theorem dX11_isSide_0 : decode cX11_isSide 0 = .ok (.iload_n 0, 1) := by decide +kernel
theorem dX11_isSide_1 : decode cX11_isSide 1 = .ok (.ifCond .eq 8, 3) := by decide +kernel
theorem dX11_isSide_4 : decode cX11_isSide 4 = .ok (.iload_n 0, 1) := by decide +kernel
theorem dX11_isSide_5 : decode cX11_isSide 5 = .ok (.iconst 1, 1) := by decide +kernel
theorem dX11_isSide_6 : decode cX11_isSide 6 = .ok (.if_icmp .ne 7, 3) := by decide +kernel
theorem dX11_isSide_9 : decode cX11_isSide 9 = .ok (.iconst 1, 1) := by decide +kernel
theorem dX11_isSide_10 : decode cX11_isSide 10 = .ok (.goto 4, 3) := by decide +kernel
theorem dX11_isSide_13 : decode cX11_isSide 13 = .ok (.iconst 0, 1) := by decide +kernel
theorem dX11_isSide_14 : decode cX11_isSide 14 = .ok (.ireturn, 1) := by decide +kernel
theorem dX11_isValue_0 : decode cX11_isValue 0 = .ok (.iload_n 0, 1) := by decide +kernel
theorem dX11_isValue_1 : decode cX11_isValue 1 = .ok (.ifCond .lt 13, 3) := by decide +kernel
theorem dX11_isValue_4 : decode cX11_isValue 4 = .ok (.iload_n 0, 1) := by decide +kernel
theorem dX11_isValue_5 : decode cX11_isValue 5 = .ok (.bipush 9, 2) := by decide +kernel
theorem dX11_isValue_7 : decode cX11_isValue 7 = .ok (.if_icmp .gt 7, 3) := by decide +kernel
theorem dX11_isValue_10 : decode cX11_isValue 10 = .ok (.iconst 1, 1) := by decide +kernel
theorem dX11_isValue_11 : decode cX11_isValue 11 = .ok (.goto 4, 3) := by decide +kernel
theorem dX11_isValue_14 : decode cX11_isValue 14 = .ok (.iconst 0, 1) := by decide +kernel
theorem dX11_isValue_15 : decode cX11_isValue 15 = .ok (.ireturn, 1) := by decide +kernel
theorem dX11_markOf_0 : decode cX11_markOf 0 = .ok (.bipush 100, 2) := by decide +kernel
theorem dX11_markOf_2 : decode cX11_markOf 2 = .ok (.iload_n 0, 1) := by decide +kernel
theorem dX11_markOf_3 : decode cX11_markOf 3 = .ok (.imul, 1) := by decide +kernel
theorem dX11_markOf_4 : decode cX11_markOf 4 = .ok (.bipush 10, 2) := by decide +kernel
theorem dX11_markOf_6 : decode cX11_markOf 6 = .ok (.iload_n 1, 1) := by decide +kernel
theorem dX11_markOf_7 : decode cX11_markOf 7 = .ok (.imul, 1) := by decide +kernel
theorem dX11_markOf_8 : decode cX11_markOf 8 = .ok (.iadd, 1) := by decide +kernel
theorem dX11_markOf_9 : decode cX11_markOf 9 = .ok (.iload_n 2, 1) := by decide +kernel
theorem dX11_markOf_10 : decode cX11_markOf 10 = .ok (.iadd, 1) := by decide +kernel
theorem dX11_markOf_11 : decode cX11_markOf 11 = .ok (.ireturn, 1) := by decide +kernel
theorem dX11_negated_0 : decode cX11_negated 0 = .ok (.iload_n 0, 1) := by decide +kernel
theorem dX11_negated_1 : decode cX11_negated 1 = .ok (.bipush 10, 2) := by decide +kernel
theorem dX11_negated_3 : decode cX11_negated 3 = .ok (.idiv, 1) := by decide +kernel
theorem dX11_negated_4 : decode cX11_negated 4 = .ok (.bipush 10, 2) := by decide +kernel
theorem dX11_negated_6 : decode cX11_negated 6 = .ok (.irem, 1) := by decide +kernel
theorem dX11_negated_7 : decode cX11_negated 7 = .ok (.ifCond .ne 10, 3) := by decide +kernel
theorem dX11_negated_10 : decode cX11_negated 10 = .ok (.iload_n 0, 1) := by decide +kernel
theorem dX11_negated_11 : decode cX11_negated 11 = .ok (.bipush 9, 2) := by decide +kernel
theorem dX11_negated_13 : decode cX11_negated 13 = .ok (.iadd, 1) := by decide +kernel
theorem dX11_negated_14 : decode cX11_negated 14 = .ok (.goto 7, 3) := by decide +kernel
theorem dX11_negated_17 : decode cX11_negated 17 = .ok (.iload_n 0, 1) := by decide +kernel
theorem dX11_negated_18 : decode cX11_negated 18 = .ok (.bipush 9, 2) := by decide +kernel
theorem dX11_negated_20 : decode cX11_negated 20 = .ok (.isub, 1) := by decide +kernel
theorem dX11_negated_21 : decode cX11_negated 21 = .ok (.ireturn, 1) := by decide +kernel
theorem dX11_sideRow_0 : decode cX11_sideRow 0 = .ok (.iload_n 0, 1) := by decide +kernel
theorem dX11_sideRow_1 : decode cX11_sideRow 1 = .ok (.bipush 100, 2) := by decide +kernel
theorem dX11_sideRow_3 : decode cX11_sideRow 3 = .ok (.idiv, 1) := by decide +kernel
theorem dX11_sideRow_4 : decode cX11_sideRow 4 = .ok (.iconst 2, 1) := by decide +kernel
theorem dX11_sideRow_5 : decode cX11_sideRow 5 = .ok (.imul, 1) := by decide +kernel
theorem dX11_sideRow_6 : decode cX11_sideRow 6 = .ok (.iload_n 0, 1) := by decide +kernel
theorem dX11_sideRow_7 : decode cX11_sideRow 7 = .ok (.bipush 10, 2) := by decide +kernel
theorem dX11_sideRow_9 : decode cX11_sideRow 9 = .ok (.idiv, 1) := by decide +kernel
theorem dX11_sideRow_10 : decode cX11_sideRow 10 = .ok (.bipush 10, 2) := by decide +kernel
theorem dX11_sideRow_12 : decode cX11_sideRow 12 = .ok (.irem, 1) := by decide +kernel
theorem dX11_sideRow_13 : decode cX11_sideRow 13 = .ok (.iadd, 1) := by decide +kernel
theorem dX11_sideRow_14 : decode cX11_sideRow 14 = .ok (.ireturn, 1) := by decide +kernel
theorem dX12_init_0 : decode cX12_init 0 = .ok (.aload_n 0, 1) := by decide +kernel
theorem dX12_init_1 : decode cX12_init 1 = .ok (.invokespecial 1, 3) := by decide +kernel
theorem dX12_init_4 : decode cX12_init 4 = .ok (.aload_n 0, 1) := by decide +kernel
theorem dX12_init_5 : decode cX12_init 5 = .ok (.bipush 60, 2) := by decide +kernel
theorem dX12_init_7 : decode cX12_init 7 = .ok (.newarray .int, 2) := by decide +kernel
theorem dX12_init_9 : decode cX12_init 9 = .ok (.putfield 7, 3) := by decide +kernel
theorem dX12_init_12 : decode cX12_init 12 = .ok (.aload_n 0, 1) := by decide +kernel
theorem dX12_init_13 : decode cX12_init 13 = .ok (.iconst 4, 1) := by decide +kernel
theorem dX12_init_14 : decode cX12_init 14 = .ok (.newarray .int, 2) := by decide +kernel
theorem dX12_init_16 : decode cX12_init 16 = .ok (.putfield 13, 3) := by decide +kernel
theorem dX12_init_19 : decode cX12_init 19 = .ok (.aload_n 0, 1) := by decide +kernel
theorem dX12_init_20 : decode cX12_init 20 = .ok (.bipush 24, 2) := by decide +kernel
theorem dX12_init_22 : decode cX12_init 22 = .ok (.newarray .int, 2) := by decide +kernel
theorem dX12_init_24 : decode cX12_init 24 = .ok (.putfield 16, 3) := by decide +kernel
theorem dX12_init_27 : decode cX12_init 27 = .ok (.aload_n 0, 1) := by decide +kernel
theorem dX12_init_28 : decode cX12_init 28 = .ok (.bipush 6, 2) := by decide +kernel
theorem dX12_init_30 : decode cX12_init 30 = .ok (.newarray .int, 2) := by decide +kernel
theorem dX12_init_32 : decode cX12_init 32 = .ok (.putfield 19, 3) := by decide +kernel
theorem dX12_init_35 : decode cX12_init 35 = .ok (.aload_n 0, 1) := by decide +kernel
theorem dX12_init_36 : decode cX12_init 36 = .ok (.sipush 471, 3) := by decide +kernel
theorem dX12_init_39 : decode cX12_init 39 = .ok (.newarray .int, 2) := by decide +kernel
theorem dX12_init_41 : decode cX12_init 41 = .ok (.putfield 22, 3) := by decide +kernel
theorem dX12_init_44 : decode cX12_init 44 = .ok (.aload_n 0, 1) := by decide +kernel
theorem dX12_init_45 : decode cX12_init 45 = .ok (.sipush 471, 3) := by decide +kernel
theorem dX12_init_48 : decode cX12_init 48 = .ok (.newarray .int, 2) := by decide +kernel
theorem dX12_init_50 : decode cX12_init 50 = .ok (.putfield 25, 3) := by decide +kernel
theorem dX12_init_53 : decode cX12_init 53 = .ok (.aload_n 0, 1) := by decide +kernel
theorem dX12_init_54 : decode cX12_init 54 = .ok (.sipush 6594, 3) := by decide +kernel
theorem dX12_init_57 : decode cX12_init 57 = .ok (.newarray .int, 2) := by decide +kernel
theorem dX12_init_59 : decode cX12_init 59 = .ok (.putfield 28, 3) := by decide +kernel
theorem dX12_init_62 : decode cX12_init 62 = .ok (.aload_n 0, 1) := by decide +kernel
theorem dX12_init_63 : decode cX12_init 63 = .ok (.sipush 942, 3) := by decide +kernel
theorem dX12_init_66 : decode cX12_init 66 = .ok (.newarray .int, 2) := by decide +kernel
theorem dX12_init_68 : decode cX12_init 68 = .ok (.putfield 31, 3) := by decide +kernel
theorem dX12_init_71 : decode cX12_init 71 = .ok (.aload_n 0, 1) := by decide +kernel
theorem dX12_init_72 : decode cX12_init 72 = .ok (.iconst 2, 1) := by decide +kernel
theorem dX12_init_73 : decode cX12_init 73 = .ok (.newarray .boolean, 2) := by decide +kernel
theorem dX12_init_75 : decode cX12_init 75 = .ok (.putfield 34, 3) := by decide +kernel
theorem dX12_init_78 : decode cX12_init 78 = .ok (.aload_n 0, 1) := by decide +kernel
theorem dX12_init_79 : decode cX12_init 79 = .ok (.bipush 6, 2) := by decide +kernel
theorem dX12_init_81 : decode cX12_init 81 = .ok (.newarray .int, 2) := by decide +kernel
theorem dX12_init_83 : decode cX12_init 83 = .ok (.putfield 38, 3) := by decide +kernel
theorem dX12_init_86 : decode cX12_init 86 = .ok (.aload_n 0, 1) := by decide +kernel
theorem dX12_init_87 : decode cX12_init 87 = .ok (.bipush 6, 2) := by decide +kernel
theorem dX12_init_89 : decode cX12_init 89 = .ok (.newarray .int, 2) := by decide +kernel
theorem dX12_init_91 : decode cX12_init 91 = .ok (.putfield 41, 3) := by decide +kernel
theorem dX12_init_94 : decode cX12_init 94 = .ok (.aload_n 0, 1) := by decide +kernel
theorem dX12_init_95 : decode cX12_init 95 = .ok (.bipush 8, 2) := by decide +kernel
theorem dX12_init_97 : decode cX12_init 97 = .ok (.newarray .int, 2) := by decide +kernel
theorem dX12_init_99 : decode cX12_init 99 = .ok (.putfield 44, 3) := by decide +kernel
theorem dX12_init_102 : decode cX12_init 102 = .ok (.aload_n 0, 1) := by decide +kernel
theorem dX12_init_103 : decode cX12_init 103 = .ok (.iconst 4, 1) := by decide +kernel
theorem dX12_init_104 : decode cX12_init 104 = .ok (.newarray .int, 2) := by decide +kernel
theorem dX12_init_106 : decode cX12_init 106 = .ok (.putfield 47, 3) := by decide +kernel
theorem dX12_init_109 : decode cX12_init 109 = .ok (.aload_n 0, 1) := by decide +kernel
theorem dX12_init_110 : decode cX12_init 110 = .ok (.bipush 64, 2) := by decide +kernel
theorem dX12_init_112 : decode cX12_init 112 = .ok (.newarray .int, 2) := by decide +kernel
theorem dX12_init_114 : decode cX12_init 114 = .ok (.putfield 50, 3) := by decide +kernel
theorem dX12_init_117 : decode cX12_init 117 = .ok (.aload_n 0, 1) := by decide +kernel
theorem dX12_init_118 : decode cX12_init 118 = .ok (.bipush 64, 2) := by decide +kernel
theorem dX12_init_120 : decode cX12_init 120 = .ok (.newarray .int, 2) := by decide +kernel
theorem dX12_init_122 : decode cX12_init 122 = .ok (.putfield 53, 3) := by decide +kernel
theorem dX12_init_125 : decode cX12_init 125 = .ok (.aload_n 0, 1) := by decide +kernel
theorem dX12_init_126 : decode cX12_init 126 = .ok (.iconst 4, 1) := by decide +kernel
theorem dX12_init_127 : decode cX12_init 127 = .ok (.newarray .int, 2) := by decide +kernel
theorem dX12_init_129 : decode cX12_init 129 = .ok (.putfield 56, 3) := by decide +kernel
theorem dX12_init_132 : decode cX12_init 132 = .ok (.aload_n 0, 1) := by decide +kernel
theorem dX12_init_133 : decode cX12_init 133 = .ok (.bipush 24, 2) := by decide +kernel
theorem dX12_init_135 : decode cX12_init 135 = .ok (.newarray .int, 2) := by decide +kernel
theorem dX12_init_137 : decode cX12_init 137 = .ok (.putfield 59, 3) := by decide +kernel
theorem dX12_init_140 : decode cX12_init 140 = .ok (.aload_n 0, 1) := by decide +kernel
theorem dX12_init_141 : decode cX12_init 141 = .ok (.bipush 6, 2) := by decide +kernel
theorem dX12_init_143 : decode cX12_init 143 = .ok (.newarray .int, 2) := by decide +kernel
theorem dX12_init_145 : decode cX12_init 145 = .ok (.putfield 62, 3) := by decide +kernel
theorem dX12_init_148 : decode cX12_init 148 = .ok (.aload_n 0, 1) := by decide +kernel
theorem dX12_init_149 : decode cX12_init 149 = .ok (.iconst 1, 1) := by decide +kernel
theorem dX12_init_150 : decode cX12_init 150 = .ok (.putfield 65, 3) := by decide +kernel
theorem dX12_init_153 : decode cX12_init 153 = .ok (.aload_n 0, 1) := by decide +kernel
theorem dX12_init_154 : decode cX12_init 154 = .ok (.getfield 13, 3) := by decide +kernel
theorem dX12_init_157 : decode cX12_init 157 = .ok (.iconst 0, 1) := by decide +kernel
theorem dX12_init_158 : decode cX12_init 158 = .ok (.bipush 9, 2) := by decide +kernel
theorem dX12_init_160 : decode cX12_init 160 = .ok (.iastore, 1) := by decide +kernel
theorem dX12_init_161 : decode cX12_init 161 = .ok (.return_, 1) := by decide +kernel
theorem dX12_copy_0 : decode cX12_copy 0 = .ok (.iconst 0, 1) := by decide +kernel
theorem dX12_copy_1 : decode cX12_copy 1 = .ok (.istore_n 2, 1) := by decide +kernel
theorem dX12_copy_2 : decode cX12_copy 2 = .ok (.iload_n 2, 1) := by decide +kernel
theorem dX12_copy_3 : decode cX12_copy 3 = .ok (.sipush 471, 3) := by decide +kernel
theorem dX12_copy_6 : decode cX12_copy 6 = .ok (.if_icmp .ge 15, 3) := by decide +kernel
theorem dX12_copy_9 : decode cX12_copy 9 = .ok (.aload_n 1, 1) := by decide +kernel
theorem dX12_copy_10 : decode cX12_copy 10 = .ok (.iload_n 2, 1) := by decide +kernel
theorem dX12_copy_11 : decode cX12_copy 11 = .ok (.aload_n 0, 1) := by decide +kernel
theorem dX12_copy_12 : decode cX12_copy 12 = .ok (.iload_n 2, 1) := by decide +kernel
theorem dX12_copy_13 : decode cX12_copy 13 = .ok (.iaload, 1) := by decide +kernel
theorem dX12_copy_14 : decode cX12_copy 14 = .ok (.iastore, 1) := by decide +kernel
theorem dX12_copy_15 : decode cX12_copy 15 = .ok (.iinc 2 1, 3) := by decide +kernel
theorem dX12_copy_18 : decode cX12_copy 18 = .ok (.goto (-16), 3) := by decide +kernel
theorem dX12_copy_21 : decode cX12_copy 21 = .ok (.return_, 1) := by decide +kernel
theorem dX12_in_0 : decode cX12_in 0 = .ok (.lload_n 0, 1) := by decide +kernel
theorem dX12_in_1 : decode cX12_in 1 = .ok (.lload_n 2, 1) := by decide +kernel
theorem dX12_in_2 : decode cX12_in 2 = .ok (.lcmp, 1) := by decide +kernel
theorem dX12_in_3 : decode cX12_in 3 = .ok (.ifCond .lt 14, 3) := by decide +kernel
theorem dX12_in_6 : decode cX12_in 6 = .ok (.lload_n 0, 1) := by decide +kernel
theorem dX12_in_7 : decode cX12_in 7 = .ok (.lload 4, 2) := by decide +kernel
theorem dX12_in_9 : decode cX12_in 9 = .ok (.lcmp, 1) := by decide +kernel
theorem dX12_in_10 : decode cX12_in 10 = .ok (.ifCond .gt 7, 3) := by decide +kernel
theorem dX12_in_13 : decode cX12_in 13 = .ok (.iconst 1, 1) := by decide +kernel
theorem dX12_in_14 : decode cX12_in 14 = .ok (.goto 4, 3) := by decide +kernel
theorem dX12_in_17 : decode cX12_in 17 = .ok (.iconst 0, 1) := by decide +kernel
theorem dX12_in_18 : decode cX12_in 18 = .ok (.ireturn, 1) := by decide +kernel
theorem dX12_ones_0 : decode cX12_ones 0 = .ok (.iconst 0, 1) := by decide +kernel
theorem dX12_ones_1 : decode cX12_ones 1 = .ok (.istore_n 1, 1) := by decide +kernel
theorem dX12_ones_2 : decode cX12_ones 2 = .ok (.iconst 0, 1) := by decide +kernel
theorem dX12_ones_3 : decode cX12_ones 3 = .ok (.istore_n 2, 1) := by decide +kernel
theorem dX12_ones_4 : decode cX12_ones 4 = .ok (.iload_n 2, 1) := by decide +kernel
theorem dX12_ones_5 : decode cX12_ones 5 = .ok (.bipush 6, 2) := by decide +kernel
theorem dX12_ones_7 : decode cX12_ones 7 = .ok (.if_icmp .ge 17, 3) := by decide +kernel
theorem dX12_ones_10 : decode cX12_ones 10 = .ok (.iload_n 1, 1) := by decide +kernel
theorem dX12_ones_11 : decode cX12_ones 11 = .ok (.iload_n 0, 1) := by decide +kernel
theorem dX12_ones_12 : decode cX12_ones 12 = .ok (.iload_n 2, 1) := by decide +kernel
theorem dX12_ones_13 : decode cX12_ones 13 = .ok (.ishr, 1) := by decide +kernel
theorem dX12_ones_14 : decode cX12_ones 14 = .ok (.iconst 1, 1) := by decide +kernel
theorem dX12_ones_15 : decode cX12_ones 15 = .ok (.iand, 1) := by decide +kernel
theorem dX12_ones_16 : decode cX12_ones 16 = .ok (.iadd, 1) := by decide +kernel
theorem dX12_ones_17 : decode cX12_ones 17 = .ok (.istore_n 1, 1) := by decide +kernel
theorem dX12_ones_18 : decode cX12_ones 18 = .ok (.iinc 2 1, 3) := by decide +kernel
theorem dX12_ones_21 : decode cX12_ones 21 = .ok (.goto (-17), 3) := by decide +kernel
theorem dX12_ones_24 : decode cX12_ones 24 = .ok (.iload_n 1, 1) := by decide +kernel
theorem dX12_ones_25 : decode cX12_ones 25 = .ok (.ireturn, 1) := by decide +kernel
theorem dX12_power_0 : decode cX12_power 0 = .ok (.iconst 1, 1) := by decide +kernel
theorem dX12_power_1 : decode cX12_power 1 = .ok (.istore_n 2, 1) := by decide +kernel
theorem dX12_power_2 : decode cX12_power 2 = .ok (.iconst 0, 1) := by decide +kernel
theorem dX12_power_3 : decode cX12_power 3 = .ok (.istore_n 3, 1) := by decide +kernel
theorem dX12_power_4 : decode cX12_power 4 = .ok (.iload_n 3, 1) := by decide +kernel
theorem dX12_power_5 : decode cX12_power 5 = .ok (.iload_n 1, 1) := by decide +kernel
theorem dX12_power_6 : decode cX12_power 6 = .ok (.if_icmp .ge 13, 3) := by decide +kernel
theorem dX12_power_9 : decode cX12_power 9 = .ok (.iload_n 2, 1) := by decide +kernel
theorem dX12_power_10 : decode cX12_power 10 = .ok (.iload_n 0, 1) := by decide +kernel
theorem dX12_power_11 : decode cX12_power 11 = .ok (.imul, 1) := by decide +kernel
theorem dX12_power_12 : decode cX12_power 12 = .ok (.istore_n 2, 1) := by decide +kernel
theorem dX12_power_13 : decode cX12_power 13 = .ok (.iinc 3 1, 3) := by decide +kernel
theorem dX12_power_16 : decode cX12_power 16 = .ok (.goto (-12), 3) := by decide +kernel
theorem dX12_power_19 : decode cX12_power 19 = .ok (.iload_n 2, 1) := by decide +kernel
theorem dX12_power_20 : decode cX12_power 20 = .ok (.ireturn, 1) := by decide +kernel
theorem dX12_factorial_0 : decode cX12_factorial 0 = .ok (.iconst 1, 1) := by decide +kernel
theorem dX12_factorial_1 : decode cX12_factorial 1 = .ok (.istore_n 1, 1) := by decide +kernel
theorem dX12_factorial_2 : decode cX12_factorial 2 = .ok (.iconst 2, 1) := by decide +kernel
theorem dX12_factorial_3 : decode cX12_factorial 3 = .ok (.istore_n 2, 1) := by decide +kernel
theorem dX12_factorial_4 : decode cX12_factorial 4 = .ok (.iload_n 2, 1) := by decide +kernel
theorem dX12_factorial_5 : decode cX12_factorial 5 = .ok (.iload_n 0, 1) := by decide +kernel
theorem dX12_factorial_6 : decode cX12_factorial 6 = .ok (.if_icmp .gt 13, 3) := by decide +kernel
theorem dX12_factorial_9 : decode cX12_factorial 9 = .ok (.iload_n 1, 1) := by decide +kernel
theorem dX12_factorial_10 : decode cX12_factorial 10 = .ok (.iload_n 2, 1) := by decide +kernel
theorem dX12_factorial_11 : decode cX12_factorial 11 = .ok (.imul, 1) := by decide +kernel
theorem dX12_factorial_12 : decode cX12_factorial 12 = .ok (.istore_n 1, 1) := by decide +kernel
theorem dX12_factorial_13 : decode cX12_factorial 13 = .ok (.iinc 2 1, 3) := by decide +kernel
theorem dX12_factorial_16 : decode cX12_factorial 16 = .ok (.goto (-12), 3) := by decide +kernel
theorem dX12_factorial_19 : decode cX12_factorial 19 = .ok (.iload_n 1, 1) := by decide +kernel
theorem dX12_factorial_20 : decode cX12_factorial 20 = .ok (.ireturn, 1) := by decide +kernel
theorem dX12_fraction_0 : decode cX12_fraction 0 = .ok (.iload_n 0, 1) := by decide +kernel
theorem dX12_fraction_1 : decode cX12_fraction 1 = .ok (.ifCond .ge 8, 3) := by decide +kernel
theorem dX12_fraction_4 : decode cX12_fraction 4 = .ok (.iload_n 0, 1) := by decide +kernel
theorem dX12_fraction_5 : decode cX12_fraction 5 = .ok (.ineg, 1) := by decide +kernel
theorem dX12_fraction_6 : decode cX12_fraction 6 = .ok (.goto 4, 3) := by decide +kernel
theorem dX12_fraction_9 : decode cX12_fraction 9 = .ok (.iload_n 0, 1) := by decide +kernel
theorem dX12_fraction_10 : decode cX12_fraction 10 = .ok (.istore_n 3, 1) := by decide +kernel
theorem dX12_fraction_11 : decode cX12_fraction 11 = .ok (.iload_n 1, 1) := by decide +kernel
theorem dX12_fraction_12 : decode cX12_fraction 12 = .ok (.istore 4, 2) := by decide +kernel
theorem dX12_fraction_14 : decode cX12_fraction 14 = .ok (.iload 4, 2) := by decide +kernel
theorem dX12_fraction_16 : decode cX12_fraction 16 = .ok (.ifCond .eq 19, 3) := by decide +kernel
theorem dX12_fraction_19 : decode cX12_fraction 19 = .ok (.iload_n 3, 1) := by decide +kernel
theorem dX12_fraction_20 : decode cX12_fraction 20 = .ok (.iload 4, 2) := by decide +kernel
theorem dX12_fraction_22 : decode cX12_fraction 22 = .ok (.irem, 1) := by decide +kernel
theorem dX12_fraction_23 : decode cX12_fraction 23 = .ok (.istore 5, 2) := by decide +kernel
theorem dX12_fraction_25 : decode cX12_fraction 25 = .ok (.iload 4, 2) := by decide +kernel
theorem dX12_fraction_27 : decode cX12_fraction 27 = .ok (.istore_n 3, 1) := by decide +kernel
theorem dX12_fraction_28 : decode cX12_fraction 28 = .ok (.iload 5, 2) := by decide +kernel
theorem dX12_fraction_30 : decode cX12_fraction 30 = .ok (.istore 4, 2) := by decide +kernel
theorem dX12_fraction_32 : decode cX12_fraction 32 = .ok (.goto (-18), 3) := by decide +kernel
theorem dX12_fraction_35 : decode cX12_fraction 35 = .ok (.iload_n 2, 1) := by decide +kernel
theorem dX12_fraction_36 : decode cX12_fraction 36 = .ok (.ifCond .eq 9, 3) := by decide +kernel
theorem dX12_fraction_39 : decode cX12_fraction 39 = .ok (.iload_n 0, 1) := by decide +kernel
theorem dX12_fraction_40 : decode cX12_fraction 40 = .ok (.iload_n 3, 1) := by decide +kernel
theorem dX12_fraction_41 : decode cX12_fraction 41 = .ok (.idiv, 1) := by decide +kernel
theorem dX12_fraction_42 : decode cX12_fraction 42 = .ok (.goto 6, 3) := by decide +kernel
theorem dX12_fraction_45 : decode cX12_fraction 45 = .ok (.iload_n 1, 1) := by decide +kernel
theorem dX12_fraction_46 : decode cX12_fraction 46 = .ok (.iload_n 3, 1) := by decide +kernel
theorem dX12_fraction_47 : decode cX12_fraction 47 = .ok (.idiv, 1) := by decide +kernel
theorem dX12_fraction_48 : decode cX12_fraction 48 = .ok (.ireturn, 1) := by decide +kernel
theorem dX12_isNumber_0 : decode cX12_isNumber 0 = .ok (.iload_n 1, 1) := by decide +kernel
theorem dX12_isNumber_1 : decode cX12_isNumber 1 = .ok (.i2l, 1) := by decide +kernel
theorem dX12_isNumber_2 : decode cX12_isNumber 2 = .ok (.lconst 0, 1) := by decide +kernel
theorem dX12_isNumber_3 : decode cX12_isNumber 3 = .ok (.aload_n 0, 1) := by decide +kernel
theorem dX12_isNumber_4 : decode cX12_isNumber 4 = .ok (.getfield 65, 3) := by decide +kernel
theorem dX12_isNumber_7 : decode cX12_isNumber 7 = .ok (.iconst 1, 1) := by decide +kernel
theorem dX12_isNumber_8 : decode cX12_isNumber 8 = .ok (.isub, 1) := by decide +kernel
theorem dX12_isNumber_9 : decode cX12_isNumber 9 = .ok (.i2l, 1) := by decide +kernel
theorem dX12_isNumber_10 : decode cX12_isNumber 10 = .ok (.invokestatic 69, 3) := by decide +kernel
theorem dX12_isNumber_13 : decode cX12_isNumber 13 = .ok (.ireturn, 1) := by decide +kernel
theorem dX12_write_0 : decode cX12_write 0 = .ok (.iload_n 1, 1) := by decide +kernel
theorem dX12_write_1 : decode cX12_write 1 = .ok (.i2l, 1) := by decide +kernel
theorem dX12_write_2 : decode cX12_write 2 = .ok (.lconst 0, 1) := by decide +kernel
theorem dX12_write_3 : decode cX12_write 3 = .ok (.ldc2_w 73, 3) := by decide +kernel
theorem dX12_write_6 : decode cX12_write 6 = .ok (.invokestatic 69, 3) := by decide +kernel
theorem dX12_write_9 : decode cX12_write 9 = .ok (.ifCond .ne 6, 3) := by decide +kernel
theorem dX12_write_12 : decode cX12_write 12 = .ok (.bipush (-2), 2) := by decide +kernel
theorem dX12_write_14 : decode cX12_write 14 = .ok (.ireturn, 1) := by decide +kernel
theorem dX12_write_15 : decode cX12_write 15 = .ok (.aload_n 0, 1) := by decide +kernel
theorem dX12_write_16 : decode cX12_write 16 = .ok (.getfield 75, 3) := by decide +kernel
theorem dX12_write_19 : decode cX12_write 19 = .ok (.bipush 60, 2) := by decide +kernel
theorem dX12_write_21 : decode cX12_write 21 = .ok (.if_icmp .ne 6, 3) := by decide +kernel
theorem dX12_write_24 : decode cX12_write 24 = .ok (.bipush (-4), 2) := by decide +kernel
theorem dX12_write_26 : decode cX12_write 26 = .ok (.ireturn, 1) := by decide +kernel
theorem dX12_write_27 : decode cX12_write 27 = .ok (.aload_n 0, 1) := by decide +kernel
theorem dX12_write_28 : decode cX12_write 28 = .ok (.getfield 7, 3) := by decide +kernel
theorem dX12_write_31 : decode cX12_write 31 = .ok (.aload_n 0, 1) := by decide +kernel
theorem dX12_write_32 : decode cX12_write 32 = .ok (.getfield 75, 3) := by decide +kernel
theorem dX12_write_35 : decode cX12_write 35 = .ok (.iload_n 1, 1) := by decide +kernel
theorem dX12_write_36 : decode cX12_write 36 = .ok (.iastore, 1) := by decide +kernel
theorem dX12_write_37 : decode cX12_write 37 = .ok (.aload_n 0, 1) := by decide +kernel
theorem dX12_write_38 : decode cX12_write 38 = .ok (.dup, 1) := by decide +kernel
theorem dX12_write_39 : decode cX12_write 39 = .ok (.getfield 75, 3) := by decide +kernel
theorem dX12_write_42 : decode cX12_write 42 = .ok (.iconst 1, 1) := by decide +kernel
theorem dX12_write_43 : decode cX12_write 43 = .ok (.iadd, 1) := by decide +kernel
theorem dX12_write_44 : decode cX12_write 44 = .ok (.putfield 75, 3) := by decide +kernel
theorem dX12_write_47 : decode cX12_write 47 = .ok (.aload_n 0, 1) := by decide +kernel
theorem dX12_write_48 : decode cX12_write 48 = .ok (.getfield 75, 3) := by decide +kernel
theorem dX12_write_51 : decode cX12_write 51 = .ok (.ireturn, 1) := by decide +kernel
theorem dX12_wipe_0 : decode cX12_wipe 0 = .ok (.aload_n 0, 1) := by decide +kernel
theorem dX12_wipe_1 : decode cX12_wipe 1 = .ok (.getfield 75, 3) := by decide +kernel
theorem dX12_wipe_4 : decode cX12_wipe 4 = .ok (.istore_n 1, 1) := by decide +kernel
theorem dX12_wipe_5 : decode cX12_wipe 5 = .ok (.aload_n 0, 1) := by decide +kernel
theorem dX12_wipe_6 : decode cX12_wipe 6 = .ok (.iconst 0, 1) := by decide +kernel
theorem dX12_wipe_7 : decode cX12_wipe 7 = .ok (.putfield 75, 3) := by decide +kernel
theorem dX12_wipe_10 : decode cX12_wipe 10 = .ok (.iload_n 1, 1) := by decide +kernel
theorem dX12_wipe_11 : decode cX12_wipe 11 = .ok (.ireturn, 1) := by decide +kernel
theorem dX12_takeHead_0 : decode cX12_takeHead 0 = .ok (.iload_n 1, 1) := by decide +kernel
theorem dX12_takeHead_1 : decode cX12_takeHead 1 = .ok (.iconst 1, 1) := by decide +kernel
theorem dX12_takeHead_2 : decode cX12_takeHead 2 = .ok (.if_icmp .ne 18, 3) := by decide +kernel
theorem dX12_takeHead_5 : decode cX12_takeHead 5 = .ok (.aload_n 0, 1) := by decide +kernel
theorem dX12_takeHead_6 : decode cX12_takeHead 6 = .ok (.iload_n 2, 1) := by decide +kernel
theorem dX12_takeHead_7 : decode cX12_takeHead 7 = .ok (.putfield 78, 3) := by decide +kernel
theorem dX12_takeHead_10 : decode cX12_takeHead 10 = .ok (.iload_n 2, 1) := by decide +kernel
theorem dX12_takeHead_11 : decode cX12_takeHead 11 = .ok (.i2l, 1) := by decide +kernel
theorem dX12_takeHead_12 : decode cX12_takeHead 12 = .ok (.lconst 1, 1) := by decide +kernel
theorem dX12_takeHead_13 : decode cX12_takeHead 13 = .ok (.ldc2_w 81, 3) := by decide +kernel
theorem dX12_takeHead_16 : decode cX12_takeHead 16 = .ok (.invokestatic 69, 3) := by decide +kernel
theorem dX12_takeHead_19 : decode cX12_takeHead 19 = .ok (.ireturn, 1) := by decide +kernel
theorem dX12_takeHead_20 : decode cX12_takeHead 20 = .ok (.aload_n 0, 1) := by decide +kernel
theorem dX12_takeHead_21 : decode cX12_takeHead 21 = .ok (.getfield 56, 3) := by decide +kernel
theorem dX12_takeHead_24 : decode cX12_takeHead 24 = .ok (.iload_n 1, 1) := by decide +kernel
theorem dX12_takeHead_25 : decode cX12_takeHead 25 = .ok (.iconst 2, 1) := by decide +kernel
theorem dX12_takeHead_26 : decode cX12_takeHead 26 = .ok (.isub, 1) := by decide +kernel
theorem dX12_takeHead_27 : decode cX12_takeHead 27 = .ok (.iload_n 2, 1) := by decide +kernel
theorem dX12_takeHead_28 : decode cX12_takeHead 28 = .ok (.iastore, 1) := by decide +kernel
theorem dX12_takeHead_29 : decode cX12_takeHead 29 = .ok (.iload_n 2, 1) := by decide +kernel
theorem dX12_takeHead_30 : decode cX12_takeHead 30 = .ok (.i2l, 1) := by decide +kernel
theorem dX12_takeHead_31 : decode cX12_takeHead 31 = .ok (.lconst 0, 1) := by decide +kernel
theorem dX12_takeHead_32 : decode cX12_takeHead 32 = .ok (.ldc2_w 83, 3) := by decide +kernel
theorem dX12_takeHead_35 : decode cX12_takeHead 35 = .ok (.invokestatic 69, 3) := by decide +kernel
theorem dX12_takeHead_38 : decode cX12_takeHead 38 = .ok (.ireturn, 1) := by decide +kernel
theorem dX12_takeOfRule_0 : decode cX12_takeOfRule 0 = .ok (.aload_n 0, 1) := by decide +kernel
theorem dX12_takeOfRule_1 : decode cX12_takeOfRule 1 = .ok (.getfield 85, 3) := by decide +kernel
theorem dX12_takeOfRule_4 : decode cX12_takeOfRule 4 = .ok (.istore_n 2, 1) := by decide +kernel
theorem dX12_takeOfRule_5 : decode cX12_takeOfRule 5 = .ok (.aload_n 0, 1) := by decide +kernel
theorem dX12_takeOfRule_6 : decode cX12_takeOfRule 6 = .ok (.dup, 1) := by decide +kernel
theorem dX12_takeOfRule_7 : decode cX12_takeOfRule 7 = .ok (.getfield 85, 3) := by decide +kernel
theorem dX12_takeOfRule_10 : decode cX12_takeOfRule 10 = .ok (.iconst 1, 1) := by decide +kernel
theorem dX12_takeOfRule_11 : decode cX12_takeOfRule 11 = .ok (.iadd, 1) := by decide +kernel
theorem dX12_takeOfRule_12 : decode cX12_takeOfRule 12 = .ok (.putfield 85, 3) := by decide +kernel
theorem dX12_takeOfRule_15 : decode cX12_takeOfRule 15 = .ok (.iload_n 2, 1) := by decide +kernel
theorem dX12_takeOfRule_16 : decode cX12_takeOfRule 16 = .ok (.ifCond .ne 24, 3) := by decide +kernel
theorem dX12_takeOfRule_19 : decode cX12_takeOfRule 19 = .ok (.iload_n 1, 1) := by decide +kernel
theorem dX12_takeOfRule_20 : decode cX12_takeOfRule 20 = .ok (.bipush 114, 2) := by decide +kernel
theorem dX12_takeOfRule_22 : decode cX12_takeOfRule 22 = .ok (.if_icmp .ne 16, 3) := by decide +kernel
theorem dX12_takeOfRule_25 : decode cX12_takeOfRule 25 = .ok (.aload_n 0, 1) := by decide +kernel
theorem dX12_takeOfRule_26 : decode cX12_takeOfRule 26 = .ok (.getfield 88, 3) := by decide +kernel
theorem dX12_takeOfRule_29 : decode cX12_takeOfRule 29 = .ok (.bipush 6, 2) := by decide +kernel
theorem dX12_takeOfRule_31 : decode cX12_takeOfRule 31 = .ok (.if_icmp .ge 7, 3) := by decide +kernel
theorem dX12_takeOfRule_34 : decode cX12_takeOfRule 34 = .ok (.iconst 1, 1) := by decide +kernel
theorem dX12_takeOfRule_35 : decode cX12_takeOfRule 35 = .ok (.goto 4, 3) := by decide +kernel
theorem dX12_takeOfRule_38 : decode cX12_takeOfRule 38 = .ok (.iconst 0, 1) := by decide +kernel
theorem dX12_takeOfRule_39 : decode cX12_takeOfRule 39 = .ok (.ireturn, 1) := by decide +kernel
theorem dX12_takeOfRule_40 : decode cX12_takeOfRule 40 = .ok (.iload_n 2, 1) := by decide +kernel
theorem dX12_takeOfRule_41 : decode cX12_takeOfRule 41 = .ok (.aload_n 0, 1) := by decide +kernel
theorem dX12_takeOfRule_42 : decode cX12_takeOfRule 42 = .ok (.getfield 78, 3) := by decide +kernel
theorem dX12_takeOfRule_45 : decode cX12_takeOfRule 45 = .ok (.if_icmp .gt 69, 3) := by decide +kernel
theorem dX12_takeOfRule_48 : decode cX12_takeOfRule 48 = .ok (.iload_n 1, 1) := by decide +kernel
theorem dX12_takeOfRule_49 : decode cX12_takeOfRule 49 = .ok (.i2l, 1) := by decide +kernel
theorem dX12_takeOfRule_50 : decode cX12_takeOfRule 50 = .ok (.ldc2_w 91, 3) := by decide +kernel
theorem dX12_takeOfRule_53 : decode cX12_takeOfRule 53 = .ok (.ldc2_w 93, 3) := by decide +kernel
theorem dX12_takeOfRule_56 : decode cX12_takeOfRule 56 = .ok (.invokestatic 69, 3) := by decide +kernel
theorem dX12_takeOfRule_59 : decode cX12_takeOfRule 59 = .ok (.istore_n 3, 1) := by decide +kernel
theorem dX12_takeOfRule_60 : decode cX12_takeOfRule 60 = .ok (.aload_n 0, 1) := by decide +kernel
theorem dX12_takeOfRule_61 : decode cX12_takeOfRule 61 = .ok (.getfield 59, 3) := by decide +kernel
theorem dX12_takeOfRule_64 : decode cX12_takeOfRule 64 = .ok (.iconst 4, 1) := by decide +kernel
theorem dX12_takeOfRule_65 : decode cX12_takeOfRule 65 = .ok (.aload_n 0, 1) := by decide +kernel
theorem dX12_takeOfRule_66 : decode cX12_takeOfRule 66 = .ok (.getfield 88, 3) := by decide +kernel
theorem dX12_takeOfRule_69 : decode cX12_takeOfRule 69 = .ok (.imul, 1) := by decide +kernel
theorem dX12_takeOfRule_70 : decode cX12_takeOfRule 70 = .ok (.iload_n 2, 1) := by decide +kernel
theorem dX12_takeOfRule_71 : decode cX12_takeOfRule 71 = .ok (.iadd, 1) := by decide +kernel
theorem dX12_takeOfRule_72 : decode cX12_takeOfRule 72 = .ok (.iconst 1, 1) := by decide +kernel
theorem dX12_takeOfRule_73 : decode cX12_takeOfRule 73 = .ok (.isub, 1) := by decide +kernel
theorem dX12_takeOfRule_74 : decode cX12_takeOfRule 74 = .ok (.iload_n 3, 1) := by decide +kernel
theorem dX12_takeOfRule_75 : decode cX12_takeOfRule 75 = .ok (.ifCond .eq 10, 3) := by decide +kernel
theorem dX12_takeOfRule_78 : decode cX12_takeOfRule 78 = .ok (.iload_n 1, 1) := by decide +kernel
theorem dX12_takeOfRule_79 : decode cX12_takeOfRule 79 = .ok (.bipush 48, 2) := by decide +kernel
theorem dX12_takeOfRule_81 : decode cX12_takeOfRule 81 = .ok (.isub, 1) := by decide +kernel
theorem dX12_takeOfRule_82 : decode cX12_takeOfRule 82 = .ok (.goto 7, 3) := by decide +kernel
theorem dX12_takeOfRule_85 : decode cX12_takeOfRule 85 = .ok (.bipush 96, 2) := by decide +kernel
theorem dX12_takeOfRule_87 : decode cX12_takeOfRule 87 = .ok (.iload_n 1, 1) := by decide +kernel
theorem dX12_takeOfRule_88 : decode cX12_takeOfRule 88 = .ok (.isub, 1) := by decide +kernel
theorem dX12_takeOfRule_89 : decode cX12_takeOfRule 89 = .ok (.iastore, 1) := by decide +kernel
theorem dX12_takeOfRule_90 : decode cX12_takeOfRule 90 = .ok (.iload_n 3, 1) := by decide +kernel
theorem dX12_takeOfRule_91 : decode cX12_takeOfRule 91 = .ok (.ifCond .ne 17, 3) := by decide +kernel
theorem dX12_takeOfRule_94 : decode cX12_takeOfRule 94 = .ok (.iload_n 1, 1) := by decide +kernel
theorem dX12_takeOfRule_95 : decode cX12_takeOfRule 95 = .ok (.i2l, 1) := by decide +kernel
theorem dX12_takeOfRule_96 : decode cX12_takeOfRule 96 = .ok (.ldc2_w 95, 3) := by decide +kernel
theorem dX12_takeOfRule_99 : decode cX12_takeOfRule 99 = .ok (.ldc2_w 97, 3) := by decide +kernel
theorem dX12_takeOfRule_102 : decode cX12_takeOfRule 102 = .ok (.invokestatic 69, 3) := by decide +kernel
theorem dX12_takeOfRule_105 : decode cX12_takeOfRule 105 = .ok (.ifCond .eq 7, 3) := by decide +kernel
theorem dX12_takeOfRule_108 : decode cX12_takeOfRule 108 = .ok (.iconst 1, 1) := by decide +kernel
theorem dX12_takeOfRule_109 : decode cX12_takeOfRule 109 = .ok (.goto 4, 3) := by decide +kernel
theorem dX12_takeOfRule_112 : decode cX12_takeOfRule 112 = .ok (.iconst 0, 1) := by decide +kernel
theorem dX12_takeOfRule_113 : decode cX12_takeOfRule 113 = .ok (.ireturn, 1) := by decide +kernel
theorem dX12_takeOfRule_114 : decode cX12_takeOfRule 114 = .ok (.iload_n 2, 1) := by decide +kernel
theorem dX12_takeOfRule_115 : decode cX12_takeOfRule 115 = .ok (.aload_n 0, 1) := by decide +kernel
theorem dX12_takeOfRule_116 : decode cX12_takeOfRule 116 = .ok (.getfield 78, 3) := by decide +kernel
theorem dX12_takeOfRule_119 : decode cX12_takeOfRule 119 = .ok (.iconst 1, 1) := by decide +kernel
theorem dX12_takeOfRule_120 : decode cX12_takeOfRule 120 = .ok (.iadd, 1) := by decide +kernel
theorem dX12_takeOfRule_121 : decode cX12_takeOfRule 121 = .ok (.if_icmp .ne 36, 3) := by decide +kernel
theorem dX12_takeOfRule_124 : decode cX12_takeOfRule 124 = .ok (.aload_n 0, 1) := by decide +kernel
theorem dX12_takeOfRule_125 : decode cX12_takeOfRule 125 = .ok (.iload_n 1, 1) := by decide +kernel
theorem dX12_takeOfRule_126 : decode cX12_takeOfRule 126 = .ok (.bipush 43, 2) := by decide +kernel
theorem dX12_takeOfRule_128 : decode cX12_takeOfRule 128 = .ok (.if_icmp .ne 7, 3) := by decide +kernel
theorem dX12_takeOfRule_131 : decode cX12_takeOfRule 131 = .ok (.iconst 1, 1) := by decide +kernel
theorem dX12_takeOfRule_132 : decode cX12_takeOfRule 132 = .ok (.goto 4, 3) := by decide +kernel
theorem dX12_takeOfRule_135 : decode cX12_takeOfRule 135 = .ok (.iconst (-1), 1) := by decide +kernel
theorem dX12_takeOfRule_136 : decode cX12_takeOfRule 136 = .ok (.putfield 99, 3) := by decide +kernel
theorem dX12_takeOfRule_139 : decode cX12_takeOfRule 139 = .ok (.iload_n 1, 1) := by decide +kernel
theorem dX12_takeOfRule_140 : decode cX12_takeOfRule 140 = .ok (.bipush 43, 2) := by decide +kernel
theorem dX12_takeOfRule_142 : decode cX12_takeOfRule 142 = .ok (.if_icmp .eq 9, 3) := by decide +kernel
theorem dX12_takeOfRule_145 : decode cX12_takeOfRule 145 = .ok (.iload_n 1, 1) := by decide +kernel
theorem dX12_takeOfRule_146 : decode cX12_takeOfRule 146 = .ok (.bipush 45, 2) := by decide +kernel
theorem dX12_takeOfRule_148 : decode cX12_takeOfRule 148 = .ok (.if_icmp .ne 7, 3) := by decide +kernel
theorem dX12_takeOfRule_151 : decode cX12_takeOfRule 151 = .ok (.iconst 1, 1) := by decide +kernel
theorem dX12_takeOfRule_152 : decode cX12_takeOfRule 152 = .ok (.goto 4, 3) := by decide +kernel
theorem dX12_takeOfRule_155 : decode cX12_takeOfRule 155 = .ok (.iconst 0, 1) := by decide +kernel
theorem dX12_takeOfRule_156 : decode cX12_takeOfRule 156 = .ok (.ireturn, 1) := by decide +kernel
theorem dX12_takeOfRule_157 : decode cX12_takeOfRule 157 = .ok (.iload_n 2, 1) := by decide +kernel
theorem dX12_takeOfRule_158 : decode cX12_takeOfRule 158 = .ok (.aload_n 0, 1) := by decide +kernel
theorem dX12_takeOfRule_159 : decode cX12_takeOfRule 159 = .ok (.getfield 78, 3) := by decide +kernel
theorem dX12_takeOfRule_162 : decode cX12_takeOfRule 162 = .ok (.iconst 2, 1) := by decide +kernel
theorem dX12_takeOfRule_163 : decode cX12_takeOfRule 163 = .ok (.iadd, 1) := by decide +kernel
theorem dX12_takeOfRule_164 : decode cX12_takeOfRule 164 = .ok (.if_icmp .ne 28, 3) := by decide +kernel
theorem dX12_takeOfRule_167 : decode cX12_takeOfRule 167 = .ok (.aload_n 0, 1) := by decide +kernel
theorem dX12_takeOfRule_168 : decode cX12_takeOfRule 168 = .ok (.getfield 62, 3) := by decide +kernel
theorem dX12_takeOfRule_171 : decode cX12_takeOfRule 171 = .ok (.aload_n 0, 1) := by decide +kernel
theorem dX12_takeOfRule_172 : decode cX12_takeOfRule 172 = .ok (.getfield 88, 3) := by decide +kernel
theorem dX12_takeOfRule_175 : decode cX12_takeOfRule 175 = .ok (.iload_n 1, 1) := by decide +kernel
theorem dX12_takeOfRule_176 : decode cX12_takeOfRule 176 = .ok (.bipush 48, 2) := by decide +kernel
theorem dX12_takeOfRule_178 : decode cX12_takeOfRule 178 = .ok (.isub, 1) := by decide +kernel
theorem dX12_takeOfRule_179 : decode cX12_takeOfRule 179 = .ok (.iastore, 1) := by decide +kernel
theorem dX12_takeOfRule_180 : decode cX12_takeOfRule 180 = .ok (.iload_n 1, 1) := by decide +kernel
theorem dX12_takeOfRule_181 : decode cX12_takeOfRule 181 = .ok (.i2l, 1) := by decide +kernel
theorem dX12_takeOfRule_182 : decode cX12_takeOfRule 182 = .ok (.ldc2_w 91, 3) := by decide +kernel
theorem dX12_takeOfRule_185 : decode cX12_takeOfRule 185 = .ok (.ldc2_w 93, 3) := by decide +kernel
theorem dX12_takeOfRule_188 : decode cX12_takeOfRule 188 = .ok (.invokestatic 69, 3) := by decide +kernel
theorem dX12_takeOfRule_191 : decode cX12_takeOfRule 191 = .ok (.ireturn, 1) := by decide +kernel
theorem dX12_takeOfRule_192 : decode cX12_takeOfRule 192 = .ok (.aload_n 0, 1) := by decide +kernel
theorem dX12_takeOfRule_193 : decode cX12_takeOfRule 193 = .ok (.getfield 62, 3) := by decide +kernel
theorem dX12_takeOfRule_196 : decode cX12_takeOfRule 196 = .ok (.aload_n 0, 1) := by decide +kernel
theorem dX12_takeOfRule_197 : decode cX12_takeOfRule 197 = .ok (.getfield 88, 3) := by decide +kernel
theorem dX12_takeOfRule_200 : decode cX12_takeOfRule 200 = .ok (.iaload, 1) := by decide +kernel
theorem dX12_takeOfRule_201 : decode cX12_takeOfRule 201 = .ok (.istore_n 3, 1) := by decide +kernel
theorem dX12_takeOfRule_202 : decode cX12_takeOfRule 202 = .ok (.aload_n 0, 1) := by decide +kernel
theorem dX12_takeOfRule_203 : decode cX12_takeOfRule 203 = .ok (.getfield 62, 3) := by decide +kernel
theorem dX12_takeOfRule_206 : decode cX12_takeOfRule 206 = .ok (.aload_n 0, 1) := by decide +kernel
theorem dX12_takeOfRule_207 : decode cX12_takeOfRule 207 = .ok (.getfield 88, 3) := by decide +kernel
theorem dX12_takeOfRule_210 : decode cX12_takeOfRule 210 = .ok (.aload_n 0, 1) := by decide +kernel
theorem dX12_takeOfRule_211 : decode cX12_takeOfRule 211 = .ok (.getfield 99, 3) := by decide +kernel
theorem dX12_takeOfRule_214 : decode cX12_takeOfRule 214 = .ok (.bipush 10, 2) := by decide +kernel
theorem dX12_takeOfRule_216 : decode cX12_takeOfRule 216 = .ok (.iload_n 3, 1) := by decide +kernel
theorem dX12_takeOfRule_217 : decode cX12_takeOfRule 217 = .ok (.imul, 1) := by decide +kernel
theorem dX12_takeOfRule_218 : decode cX12_takeOfRule 218 = .ok (.iload_n 1, 1) := by decide +kernel
theorem dX12_takeOfRule_219 : decode cX12_takeOfRule 219 = .ok (.iadd, 1) := by decide +kernel
theorem dX12_takeOfRule_220 : decode cX12_takeOfRule 220 = .ok (.bipush 48, 2) := by decide +kernel
theorem dX12_takeOfRule_222 : decode cX12_takeOfRule 222 = .ok (.isub, 1) := by decide +kernel
theorem dX12_takeOfRule_223 : decode cX12_takeOfRule 223 = .ok (.imul, 1) := by decide +kernel
theorem dX12_takeOfRule_224 : decode cX12_takeOfRule 224 = .ok (.iastore, 1) := by decide +kernel
theorem dX12_takeOfRule_225 : decode cX12_takeOfRule 225 = .ok (.aload_n 0, 1) := by decide +kernel
theorem dX12_takeOfRule_226 : decode cX12_takeOfRule 226 = .ok (.dup, 1) := by decide +kernel
theorem dX12_takeOfRule_227 : decode cX12_takeOfRule 227 = .ok (.getfield 88, 3) := by decide +kernel
theorem dX12_takeOfRule_230 : decode cX12_takeOfRule 230 = .ok (.iconst 1, 1) := by decide +kernel
theorem dX12_takeOfRule_231 : decode cX12_takeOfRule 231 = .ok (.iadd, 1) := by decide +kernel
theorem dX12_takeOfRule_232 : decode cX12_takeOfRule 232 = .ok (.putfield 88, 3) := by decide +kernel
theorem dX12_takeOfRule_235 : decode cX12_takeOfRule 235 = .ok (.aload_n 0, 1) := by decide +kernel
theorem dX12_takeOfRule_236 : decode cX12_takeOfRule 236 = .ok (.iconst 0, 1) := by decide +kernel
theorem dX12_takeOfRule_237 : decode cX12_takeOfRule 237 = .ok (.putfield 85, 3) := by decide +kernel
theorem dX12_takeOfRule_240 : decode cX12_takeOfRule 240 = .ok (.iload_n 1, 1) := by decide +kernel
theorem dX12_takeOfRule_241 : decode cX12_takeOfRule 241 = .ok (.i2l, 1) := by decide +kernel
theorem dX12_takeOfRule_242 : decode cX12_takeOfRule 242 = .ok (.ldc2_w 91, 3) := by decide +kernel
theorem dX12_takeOfRule_245 : decode cX12_takeOfRule 245 = .ok (.iload_n 3, 1) := by decide +kernel
theorem dX12_takeOfRule_246 : decode cX12_takeOfRule 246 = .ok (.iconst 3, 1) := by decide +kernel
theorem dX12_takeOfRule_247 : decode cX12_takeOfRule 247 = .ok (.if_icmp .ne 9, 3) := by decide +kernel
theorem dX12_takeOfRule_250 : decode cX12_takeOfRule 250 = .ok (.ldc2_w 91, 3) := by decide +kernel
theorem dX12_takeOfRule_253 : decode cX12_takeOfRule 253 = .ok (.goto 6, 3) := by decide +kernel
theorem dX12_takeOfRule_256 : decode cX12_takeOfRule 256 = .ok (.ldc2_w 102, 3) := by decide +kernel
theorem dX12_takeOfRule_259 : decode cX12_takeOfRule 259 = .ok (.invokestatic 69, 3) := by decide +kernel
theorem dX12_takeOfRule_262 : decode cX12_takeOfRule 262 = .ok (.ireturn, 1) := by decide +kernel
theorem dX12_readText_0 : decode cX12_readText 0 = .ok (.aload_n 0, 1) := by decide +kernel
theorem dX12_readText_1 : decode cX12_readText 1 = .ok (.iconst 0, 1) := by decide +kernel
theorem dX12_readText_2 : decode cX12_readText 2 = .ok (.putfield 88, 3) := by decide +kernel
theorem dX12_readText_5 : decode cX12_readText 5 = .ok (.aload_n 0, 1) := by decide +kernel
theorem dX12_readText_6 : decode cX12_readText 6 = .ok (.iconst 1, 1) := by decide +kernel
theorem dX12_readText_7 : decode cX12_readText 7 = .ok (.putfield 78, 3) := by decide +kernel
theorem dX12_readText_10 : decode cX12_readText 10 = .ok (.aload_n 0, 1) := by decide +kernel
theorem dX12_readText_11 : decode cX12_readText 11 = .ok (.iconst 0, 1) := by decide +kernel
theorem dX12_readText_12 : decode cX12_readText 12 = .ok (.putfield 85, 3) := by decide +kernel
theorem dX12_readText_15 : decode cX12_readText 15 = .ok (.aload_n 0, 1) := by decide +kernel
theorem dX12_readText_16 : decode cX12_readText 16 = .ok (.getfield 75, 3) := by decide +kernel
theorem dX12_readText_19 : decode cX12_readText 19 = .ok (.ifCond .eq 14, 3) := by decide +kernel
theorem dX12_readText_22 : decode cX12_readText 22 = .ok (.aload_n 0, 1) := by decide +kernel
theorem dX12_readText_23 : decode cX12_readText 23 = .ok (.getfield 7, 3) := by decide +kernel
theorem dX12_readText_26 : decode cX12_readText 26 = .ok (.iconst 0, 1) := by decide +kernel
theorem dX12_readText_27 : decode cX12_readText 27 = .ok (.iaload, 1) := by decide +kernel
theorem dX12_readText_28 : decode cX12_readText 28 = .ok (.bipush 76, 2) := by decide +kernel
theorem dX12_readText_30 : decode cX12_readText 30 = .ok (.if_icmp .eq 5, 3) := by decide +kernel
theorem dX12_readText_33 : decode cX12_readText 33 = .ok (.iconst 0, 1) := by decide +kernel
theorem dX12_readText_34 : decode cX12_readText 34 = .ok (.ireturn, 1) := by decide +kernel
theorem dX12_readText_35 : decode cX12_readText 35 = .ok (.iconst 1, 1) := by decide +kernel
theorem dX12_readText_36 : decode cX12_readText 36 = .ok (.istore_n 1, 1) := by decide +kernel
theorem dX12_readText_37 : decode cX12_readText 37 = .ok (.iload_n 1, 1) := by decide +kernel
theorem dX12_readText_38 : decode cX12_readText 38 = .ok (.aload_n 0, 1) := by decide +kernel
theorem dX12_readText_39 : decode cX12_readText 39 = .ok (.getfield 75, 3) := by decide +kernel
theorem dX12_readText_42 : decode cX12_readText 42 = .ok (.if_icmp .ge 69, 3) := by decide +kernel
theorem dX12_readText_45 : decode cX12_readText 45 = .ok (.iload_n 1, 1) := by decide +kernel
theorem dX12_readText_46 : decode cX12_readText 46 = .ok (.iconst 1, 1) := by decide +kernel
theorem dX12_readText_47 : decode cX12_readText 47 = .ok (.if_icmp .eq 13, 3) := by decide +kernel
theorem dX12_readText_50 : decode cX12_readText 50 = .ok (.iload_n 1, 1) := by decide +kernel
theorem dX12_readText_51 : decode cX12_readText 51 = .ok (.iconst 2, 1) := by decide +kernel
theorem dX12_readText_52 : decode cX12_readText 52 = .ok (.aload_n 0, 1) := by decide +kernel
theorem dX12_readText_53 : decode cX12_readText 53 = .ok (.getfield 78, 3) := by decide +kernel
theorem dX12_readText_56 : decode cX12_readText 56 = .ok (.iadd, 1) := by decide +kernel
theorem dX12_readText_57 : decode cX12_readText 57 = .ok (.if_icmp .ge 7, 3) := by decide +kernel
theorem dX12_readText_60 : decode cX12_readText 60 = .ok (.iconst 1, 1) := by decide +kernel
theorem dX12_readText_61 : decode cX12_readText 61 = .ok (.goto 4, 3) := by decide +kernel
theorem dX12_readText_64 : decode cX12_readText 64 = .ok (.iconst 0, 1) := by decide +kernel
theorem dX12_readText_65 : decode cX12_readText 65 = .ok (.istore_n 2, 1) := by decide +kernel
theorem dX12_readText_66 : decode cX12_readText 66 = .ok (.iload_n 2, 1) := by decide +kernel
theorem dX12_readText_67 : decode cX12_readText 67 = .ok (.ifCond .eq 23, 3) := by decide +kernel
theorem dX12_readText_70 : decode cX12_readText 70 = .ok (.aload_n 0, 1) := by decide +kernel
theorem dX12_readText_71 : decode cX12_readText 71 = .ok (.iload_n 1, 1) := by decide +kernel
theorem dX12_readText_72 : decode cX12_readText 72 = .ok (.aload_n 0, 1) := by decide +kernel
theorem dX12_readText_73 : decode cX12_readText 73 = .ok (.getfield 7, 3) := by decide +kernel
theorem dX12_readText_76 : decode cX12_readText 76 = .ok (.iload_n 1, 1) := by decide +kernel
theorem dX12_readText_77 : decode cX12_readText 77 = .ok (.iaload, 1) := by decide +kernel
theorem dX12_readText_78 : decode cX12_readText 78 = .ok (.bipush 48, 2) := by decide +kernel
theorem dX12_readText_80 : decode cX12_readText 80 = .ok (.isub, 1) := by decide +kernel
theorem dX12_readText_81 : decode cX12_readText 81 = .ok (.invokevirtual 104, 3) := by decide +kernel
theorem dX12_readText_84 : decode cX12_readText 84 = .ok (.ifCond .eq 19, 3) := by decide +kernel
theorem dX12_readText_87 : decode cX12_readText 87 = .ok (.goto 18, 3) := by decide +kernel
theorem dX12_readText_90 : decode cX12_readText 90 = .ok (.aload_n 0, 1) := by decide +kernel
theorem dX12_readText_91 : decode cX12_readText 91 = .ok (.aload_n 0, 1) := by decide +kernel
theorem dX12_readText_92 : decode cX12_readText 92 = .ok (.getfield 7, 3) := by decide +kernel
theorem dX12_readText_95 : decode cX12_readText 95 = .ok (.iload_n 1, 1) := by decide +kernel
theorem dX12_readText_96 : decode cX12_readText 96 = .ok (.iaload, 1) := by decide +kernel
theorem dX12_readText_97 : decode cX12_readText 97 = .ok (.invokevirtual 108, 3) := by decide +kernel
theorem dX12_readText_100 : decode cX12_readText 100 = .ok (.ifCond .ne 5, 3) := by decide +kernel
theorem dX12_readText_103 : decode cX12_readText 103 = .ok (.iload_n 1, 1) := by decide +kernel
theorem dX12_readText_104 : decode cX12_readText 104 = .ok (.ireturn, 1) := by decide +kernel
theorem dX12_readText_105 : decode cX12_readText 105 = .ok (.iinc 1 1, 3) := by decide +kernel
theorem dX12_readText_108 : decode cX12_readText 108 = .ok (.goto (-71), 3) := by decide +kernel
theorem dX12_readText_111 : decode cX12_readText 111 = .ok (.aload_n 0, 1) := by decide +kernel
theorem dX12_readText_112 : decode cX12_readText 112 = .ok (.getfield 75, 3) := by decide +kernel
theorem dX12_readText_115 : decode cX12_readText 115 = .ok (.iconst 2, 1) := by decide +kernel
theorem dX12_readText_116 : decode cX12_readText 116 = .ok (.aload_n 0, 1) := by decide +kernel
theorem dX12_readText_117 : decode cX12_readText 117 = .ok (.getfield 78, 3) := by decide +kernel
theorem dX12_readText_120 : decode cX12_readText 120 = .ok (.iadd, 1) := by decide +kernel
theorem dX12_readText_121 : decode cX12_readText 121 = .ok (.if_icmp .lt 23, 3) := by decide +kernel
theorem dX12_readText_124 : decode cX12_readText 124 = .ok (.aload_n 0, 1) := by decide +kernel
theorem dX12_readText_125 : decode cX12_readText 125 = .ok (.getfield 75, 3) := by decide +kernel
theorem dX12_readText_128 : decode cX12_readText 128 = .ok (.iconst 1, 1) := by decide +kernel
theorem dX12_readText_129 : decode cX12_readText 129 = .ok (.if_icmp .le 15, 3) := by decide +kernel
theorem dX12_readText_132 : decode cX12_readText 132 = .ok (.aload_n 0, 1) := by decide +kernel
theorem dX12_readText_133 : decode cX12_readText 133 = .ok (.getfield 85, 3) := by decide +kernel
theorem dX12_readText_136 : decode cX12_readText 136 = .ok (.ifCond .ne 8, 3) := by decide +kernel
theorem dX12_readText_139 : decode cX12_readText 139 = .ok (.bipush (-9), 2) := by decide +kernel
theorem dX12_readText_141 : decode cX12_readText 141 = .ok (.goto 7, 3) := by decide +kernel
theorem dX12_readText_144 : decode cX12_readText 144 = .ok (.aload_n 0, 1) := by decide +kernel
theorem dX12_readText_145 : decode cX12_readText 145 = .ok (.getfield 75, 3) := by decide +kernel
theorem dX12_readText_148 : decode cX12_readText 148 = .ok (.ireturn, 1) := by decide +kernel
theorem dX12_fault_0 : decode cX12_fault 0 = .ok (.aload_n 0, 1) := by decide +kernel
theorem dX12_fault_1 : decode cX12_fault 1 = .ok (.invokevirtual 112, 3) := by decide +kernel
theorem dX12_fault_4 : decode cX12_fault 4 = .ok (.ireturn, 1) := by decide +kernel
theorem dX12_codeOf_0 : decode cX12_codeOf 0 = .ok (.bipush 100, 2) := by decide +kernel
theorem dX12_codeOf_2 : decode cX12_codeOf 2 = .ok (.iload_n 0, 1) := by decide +kernel
theorem dX12_codeOf_3 : decode cX12_codeOf 3 = .ok (.imul, 1) := by decide +kernel
theorem dX12_codeOf_4 : decode cX12_codeOf 4 = .ok (.bipush 10, 2) := by decide +kernel
theorem dX12_codeOf_6 : decode cX12_codeOf 6 = .ok (.iload_n 1, 1) := by decide +kernel
theorem dX12_codeOf_7 : decode cX12_codeOf 7 = .ok (.imul, 1) := by decide +kernel
theorem dX12_codeOf_8 : decode cX12_codeOf 8 = .ok (.iadd, 1) := by decide +kernel
theorem dX12_codeOf_9 : decode cX12_codeOf 9 = .ok (.iload_n 2, 1) := by decide +kernel
theorem dX12_codeOf_10 : decode cX12_codeOf 10 = .ok (.iadd, 1) := by decide +kernel
theorem dX12_codeOf_11 : decode cX12_codeOf 11 = .ok (.ireturn, 1) := by decide +kernel
theorem dX12_lowAt_0 : decode cX12_lowAt 0 = .ok (.iconst 0, 1) := by decide +kernel
theorem dX12_lowAt_1 : decode cX12_lowAt 1 = .ok (.istore 4, 2) := by decide +kernel
theorem dX12_lowAt_3 : decode cX12_lowAt 3 = .ok (.iconst 0, 1) := by decide +kernel
theorem dX12_lowAt_4 : decode cX12_lowAt 4 = .ok (.istore 5, 2) := by decide +kernel
theorem dX12_lowAt_6 : decode cX12_lowAt 6 = .ok (.iload 5, 2) := by decide +kernel
theorem dX12_lowAt_8 : decode cX12_lowAt 8 = .ok (.iload_n 3, 1) := by decide +kernel
theorem dX12_lowAt_9 : decode cX12_lowAt 9 = .ok (.if_icmp .ge 51, 3) := by decide +kernel
theorem dX12_lowAt_12 : decode cX12_lowAt 12 = .ok (.aload_n 1, 1) := by decide +kernel
theorem dX12_lowAt_13 : decode cX12_lowAt 13 = .ok (.iconst 1, 1) := by decide +kernel
theorem dX12_lowAt_14 : decode cX12_lowAt 14 = .ok (.iload 5, 2) := by decide +kernel
theorem dX12_lowAt_16 : decode cX12_lowAt 16 = .ok (.iadd, 1) := by decide +kernel
theorem dX12_lowAt_17 : decode cX12_lowAt 17 = .ok (.iaload, 1) := by decide +kernel
theorem dX12_lowAt_18 : decode cX12_lowAt 18 = .ok (.istore 6, 2) := by decide +kernel
theorem dX12_lowAt_20 : decode cX12_lowAt 20 = .ok (.iload 6, 2) := by decide +kernel
theorem dX12_lowAt_22 : decode cX12_lowAt 22 = .ok (.bipush 10, 2) := by decide +kernel
theorem dX12_lowAt_24 : decode cX12_lowAt 24 = .ok (.idiv, 1) := by decide +kernel
theorem dX12_lowAt_25 : decode cX12_lowAt 25 = .ok (.bipush 10, 2) := by decide +kernel
theorem dX12_lowAt_27 : decode cX12_lowAt 27 = .ok (.iload_n 2, 1) := by decide +kernel
theorem dX12_lowAt_28 : decode cX12_lowAt 28 = .ok (.imul, 1) := by decide +kernel
theorem dX12_lowAt_29 : decode cX12_lowAt 29 = .ok (.if_icmp .ne 21, 3) := by decide +kernel
theorem dX12_lowAt_32 : decode cX12_lowAt 32 = .ok (.iload 6, 2) := by decide +kernel
theorem dX12_lowAt_34 : decode cX12_lowAt 34 = .ok (.bipush 10, 2) := by decide +kernel
theorem dX12_lowAt_36 : decode cX12_lowAt 36 = .ok (.irem, 1) := by decide +kernel
theorem dX12_lowAt_37 : decode cX12_lowAt 37 = .ok (.iload 4, 2) := by decide +kernel
theorem dX12_lowAt_39 : decode cX12_lowAt 39 = .ok (.if_icmp .le 11, 3) := by decide +kernel
theorem dX12_lowAt_42 : decode cX12_lowAt 42 = .ok (.iload 6, 2) := by decide +kernel
theorem dX12_lowAt_44 : decode cX12_lowAt 44 = .ok (.bipush 10, 2) := by decide +kernel
theorem dX12_lowAt_46 : decode cX12_lowAt 46 = .ok (.irem, 1) := by decide +kernel
theorem dX12_lowAt_47 : decode cX12_lowAt 47 = .ok (.goto 5, 3) := by decide +kernel
theorem dX12_lowAt_50 : decode cX12_lowAt 50 = .ok (.iload 4, 2) := by decide +kernel
theorem dX12_lowAt_52 : decode cX12_lowAt 52 = .ok (.istore 4, 2) := by decide +kernel
theorem dX12_lowAt_54 : decode cX12_lowAt 54 = .ok (.iinc 5 1, 3) := by decide +kernel
theorem dX12_lowAt_57 : decode cX12_lowAt 57 = .ok (.goto (-51), 3) := by decide +kernel
theorem dX12_lowAt_60 : decode cX12_lowAt 60 = .ok (.iload 4, 2) := by decide +kernel
theorem dX12_lowAt_62 : decode cX12_lowAt 62 = .ok (.ireturn, 1) := by decide +kernel
theorem dX12_highAt_0 : decode cX12_highAt 0 = .ok (.aload_n 0, 1) := by decide +kernel
theorem dX12_highAt_1 : decode cX12_highAt 1 = .ok (.getfield 13, 3) := by decide +kernel
theorem dX12_highAt_4 : decode cX12_highAt 4 = .ok (.iload_n 2, 1) := by decide +kernel
theorem dX12_highAt_5 : decode cX12_highAt 5 = .ok (.iaload, 1) := by decide +kernel
theorem dX12_highAt_6 : decode cX12_highAt 6 = .ok (.istore 4, 2) := by decide +kernel
theorem dX12_highAt_8 : decode cX12_highAt 8 = .ok (.iconst 0, 1) := by decide +kernel
theorem dX12_highAt_9 : decode cX12_highAt 9 = .ok (.istore 5, 2) := by decide +kernel
theorem dX12_highAt_11 : decode cX12_highAt 11 = .ok (.iload 5, 2) := by decide +kernel
theorem dX12_highAt_13 : decode cX12_highAt 13 = .ok (.iload_n 3, 1) := by decide +kernel
theorem dX12_highAt_14 : decode cX12_highAt 14 = .ok (.if_icmp .ge 53, 3) := by decide +kernel
theorem dX12_highAt_17 : decode cX12_highAt 17 = .ok (.aload_n 1, 1) := by decide +kernel
theorem dX12_highAt_18 : decode cX12_highAt 18 = .ok (.iconst 1, 1) := by decide +kernel
theorem dX12_highAt_19 : decode cX12_highAt 19 = .ok (.iload 5, 2) := by decide +kernel
theorem dX12_highAt_21 : decode cX12_highAt 21 = .ok (.iadd, 1) := by decide +kernel
theorem dX12_highAt_22 : decode cX12_highAt 22 = .ok (.iaload, 1) := by decide +kernel
theorem dX12_highAt_23 : decode cX12_highAt 23 = .ok (.istore 6, 2) := by decide +kernel
theorem dX12_highAt_25 : decode cX12_highAt 25 = .ok (.iload 6, 2) := by decide +kernel
theorem dX12_highAt_27 : decode cX12_highAt 27 = .ok (.bipush 10, 2) := by decide +kernel
theorem dX12_highAt_29 : decode cX12_highAt 29 = .ok (.idiv, 1) := by decide +kernel
theorem dX12_highAt_30 : decode cX12_highAt 30 = .ok (.bipush 10, 2) := by decide +kernel
theorem dX12_highAt_32 : decode cX12_highAt 32 = .ok (.iload_n 2, 1) := by decide +kernel
theorem dX12_highAt_33 : decode cX12_highAt 33 = .ok (.imul, 1) := by decide +kernel
theorem dX12_highAt_34 : decode cX12_highAt 34 = .ok (.iconst 1, 1) := by decide +kernel
theorem dX12_highAt_35 : decode cX12_highAt 35 = .ok (.iadd, 1) := by decide +kernel
theorem dX12_highAt_36 : decode cX12_highAt 36 = .ok (.if_icmp .ne 21, 3) := by decide +kernel
theorem dX12_highAt_39 : decode cX12_highAt 39 = .ok (.iload 6, 2) := by decide +kernel
theorem dX12_highAt_41 : decode cX12_highAt 41 = .ok (.bipush 10, 2) := by decide +kernel
theorem dX12_highAt_43 : decode cX12_highAt 43 = .ok (.irem, 1) := by decide +kernel
theorem dX12_highAt_44 : decode cX12_highAt 44 = .ok (.iload 4, 2) := by decide +kernel
theorem dX12_highAt_46 : decode cX12_highAt 46 = .ok (.if_icmp .ge 11, 3) := by decide +kernel
theorem dX12_highAt_49 : decode cX12_highAt 49 = .ok (.iload 6, 2) := by decide +kernel
theorem dX12_highAt_51 : decode cX12_highAt 51 = .ok (.bipush 10, 2) := by decide +kernel
theorem dX12_highAt_53 : decode cX12_highAt 53 = .ok (.irem, 1) := by decide +kernel
theorem dX12_highAt_54 : decode cX12_highAt 54 = .ok (.goto 5, 3) := by decide +kernel
theorem dX12_highAt_57 : decode cX12_highAt 57 = .ok (.iload 4, 2) := by decide +kernel
theorem dX12_highAt_59 : decode cX12_highAt 59 = .ok (.istore 4, 2) := by decide +kernel
theorem dX12_highAt_61 : decode cX12_highAt 61 = .ok (.iinc 5 1, 3) := by decide +kernel
theorem dX12_highAt_64 : decode cX12_highAt 64 = .ok (.goto (-53), 3) := by decide +kernel
theorem dX12_highAt_67 : decode cX12_highAt 67 = .ok (.iload 4, 2) := by decide +kernel
theorem dX12_highAt_69 : decode cX12_highAt 69 = .ok (.ireturn, 1) := by decide +kernel
theorem dX12_low_0 : decode cX12_low 0 = .ok (.aload_n 0, 1) := by decide +kernel
theorem dX12_low_1 : decode cX12_low 1 = .ok (.aload_n 1, 1) := by decide +kernel
theorem dX12_low_2 : decode cX12_low 2 = .ok (.iload_n 2, 1) := by decide +kernel
theorem dX12_low_3 : decode cX12_low 3 = .ok (.aload_n 1, 1) := by decide +kernel
theorem dX12_low_4 : decode cX12_low 4 = .ok (.iconst 0, 1) := by decide +kernel
theorem dX12_low_5 : decode cX12_low 5 = .ok (.iaload, 1) := by decide +kernel
theorem dX12_low_6 : decode cX12_low 6 = .ok (.invokevirtual 116, 3) := by decide +kernel
theorem dX12_low_9 : decode cX12_low 9 = .ok (.ireturn, 1) := by decide +kernel
theorem dX12_high_0 : decode cX12_high 0 = .ok (.aload_n 0, 1) := by decide +kernel
theorem dX12_high_1 : decode cX12_high 1 = .ok (.aload_n 1, 1) := by decide +kernel
theorem dX12_high_2 : decode cX12_high 2 = .ok (.iload_n 2, 1) := by decide +kernel
theorem dX12_high_3 : decode cX12_high 3 = .ok (.aload_n 1, 1) := by decide +kernel
theorem dX12_high_4 : decode cX12_high 4 = .ok (.iconst 0, 1) := by decide +kernel
theorem dX12_high_5 : decode cX12_high 5 = .ok (.iaload, 1) := by decide +kernel
theorem dX12_high_6 : decode cX12_high 6 = .ok (.invokevirtual 120, 3) := by decide +kernel
theorem dX12_high_9 : decode cX12_high 9 = .ok (.ireturn, 1) := by decide +kernel
theorem dX12_isSo_0 : decode cX12_isSo 0 = .ok (.iload_n 2, 1) := by decide +kernel
theorem dX12_isSo_1 : decode cX12_isSo 1 = .ok (.bipush 100, 2) := by decide +kernel
theorem dX12_isSo_3 : decode cX12_isSo 3 = .ok (.idiv, 1) := by decide +kernel
theorem dX12_isSo_4 : decode cX12_isSo 4 = .ok (.istore_n 3, 1) := by decide +kernel
theorem dX12_isSo_5 : decode cX12_isSo 5 = .ok (.iload_n 2, 1) := by decide +kernel
theorem dX12_isSo_6 : decode cX12_isSo 6 = .ok (.bipush 10, 2) := by decide +kernel
theorem dX12_isSo_8 : decode cX12_isSo 8 = .ok (.idiv, 1) := by decide +kernel
theorem dX12_isSo_9 : decode cX12_isSo 9 = .ok (.bipush 10, 2) := by decide +kernel
theorem dX12_isSo_11 : decode cX12_isSo 11 = .ok (.irem, 1) := by decide +kernel
theorem dX12_isSo_12 : decode cX12_isSo 12 = .ok (.ifCond .ne 24, 3) := by decide +kernel
theorem dX12_isSo_15 : decode cX12_isSo 15 = .ok (.iload_n 2, 1) := by decide +kernel
theorem dX12_isSo_16 : decode cX12_isSo 16 = .ok (.bipush 10, 2) := by decide +kernel
theorem dX12_isSo_18 : decode cX12_isSo 18 = .ok (.irem, 1) := by decide +kernel
theorem dX12_isSo_19 : decode cX12_isSo 19 = .ok (.aload_n 0, 1) := by decide +kernel
theorem dX12_isSo_20 : decode cX12_isSo 20 = .ok (.aload_n 1, 1) := by decide +kernel
theorem dX12_isSo_21 : decode cX12_isSo 21 = .ok (.iload_n 3, 1) := by decide +kernel
theorem dX12_isSo_22 : decode cX12_isSo 22 = .ok (.invokevirtual 123, 3) := by decide +kernel
theorem dX12_isSo_25 : decode cX12_isSo 25 = .ok (.if_icmp .gt 7, 3) := by decide +kernel
theorem dX12_isSo_28 : decode cX12_isSo 28 = .ok (.iconst 1, 1) := by decide +kernel
theorem dX12_isSo_29 : decode cX12_isSo 29 = .ok (.goto 25, 3) := by decide +kernel
theorem dX12_isSo_32 : decode cX12_isSo 32 = .ok (.iconst 0, 1) := by decide +kernel
theorem dX12_isSo_33 : decode cX12_isSo 33 = .ok (.goto 21, 3) := by decide +kernel
theorem dX12_isSo_36 : decode cX12_isSo 36 = .ok (.iload_n 2, 1) := by decide +kernel
theorem dX12_isSo_37 : decode cX12_isSo 37 = .ok (.bipush 10, 2) := by decide +kernel
theorem dX12_isSo_39 : decode cX12_isSo 39 = .ok (.irem, 1) := by decide +kernel
theorem dX12_isSo_40 : decode cX12_isSo 40 = .ok (.aload_n 0, 1) := by decide +kernel
theorem dX12_isSo_41 : decode cX12_isSo 41 = .ok (.aload_n 1, 1) := by decide +kernel
theorem dX12_isSo_42 : decode cX12_isSo 42 = .ok (.iload_n 3, 1) := by decide +kernel
theorem dX12_isSo_43 : decode cX12_isSo 43 = .ok (.invokevirtual 127, 3) := by decide +kernel
theorem dX12_isSo_46 : decode cX12_isSo 46 = .ok (.if_icmp .lt 7, 3) := by decide +kernel
theorem dX12_isSo_49 : decode cX12_isSo 49 = .ok (.iconst 1, 1) := by decide +kernel
theorem dX12_isSo_50 : decode cX12_isSo 50 = .ok (.goto 4, 3) := by decide +kernel
theorem dX12_isSo_53 : decode cX12_isSo 53 = .ok (.iconst 0, 1) := by decide +kernel
theorem dX12_isSo_54 : decode cX12_isSo 54 = .ok (.ireturn, 1) := by decide +kernel
theorem dX12_isNotSo_0 : decode cX12_isNotSo 0 = .ok (.iload_n 2, 1) := by decide +kernel
theorem dX12_isNotSo_1 : decode cX12_isNotSo 1 = .ok (.bipush 100, 2) := by decide +kernel
theorem dX12_isNotSo_3 : decode cX12_isNotSo 3 = .ok (.idiv, 1) := by decide +kernel
theorem dX12_isNotSo_4 : decode cX12_isNotSo 4 = .ok (.istore_n 3, 1) := by decide +kernel
theorem dX12_isNotSo_5 : decode cX12_isNotSo 5 = .ok (.iload_n 2, 1) := by decide +kernel
theorem dX12_isNotSo_6 : decode cX12_isNotSo 6 = .ok (.bipush 10, 2) := by decide +kernel
theorem dX12_isNotSo_8 : decode cX12_isNotSo 8 = .ok (.idiv, 1) := by decide +kernel
theorem dX12_isNotSo_9 : decode cX12_isNotSo 9 = .ok (.bipush 10, 2) := by decide +kernel
theorem dX12_isNotSo_11 : decode cX12_isNotSo 11 = .ok (.irem, 1) := by decide +kernel
theorem dX12_isNotSo_12 : decode cX12_isNotSo 12 = .ok (.ifCond .ne 24, 3) := by decide +kernel
theorem dX12_isNotSo_15 : decode cX12_isNotSo 15 = .ok (.iload_n 2, 1) := by decide +kernel
theorem dX12_isNotSo_16 : decode cX12_isNotSo 16 = .ok (.bipush 10, 2) := by decide +kernel
theorem dX12_isNotSo_18 : decode cX12_isNotSo 18 = .ok (.irem, 1) := by decide +kernel
theorem dX12_isNotSo_19 : decode cX12_isNotSo 19 = .ok (.aload_n 0, 1) := by decide +kernel
theorem dX12_isNotSo_20 : decode cX12_isNotSo 20 = .ok (.aload_n 1, 1) := by decide +kernel
theorem dX12_isNotSo_21 : decode cX12_isNotSo 21 = .ok (.iload_n 3, 1) := by decide +kernel
theorem dX12_isNotSo_22 : decode cX12_isNotSo 22 = .ok (.invokevirtual 127, 3) := by decide +kernel
theorem dX12_isNotSo_25 : decode cX12_isNotSo 25 = .ok (.if_icmp .le 7, 3) := by decide +kernel
theorem dX12_isNotSo_28 : decode cX12_isNotSo 28 = .ok (.iconst 1, 1) := by decide +kernel
theorem dX12_isNotSo_29 : decode cX12_isNotSo 29 = .ok (.goto 25, 3) := by decide +kernel
theorem dX12_isNotSo_32 : decode cX12_isNotSo 32 = .ok (.iconst 0, 1) := by decide +kernel
theorem dX12_isNotSo_33 : decode cX12_isNotSo 33 = .ok (.goto 21, 3) := by decide +kernel
theorem dX12_isNotSo_36 : decode cX12_isNotSo 36 = .ok (.iload_n 2, 1) := by decide +kernel
theorem dX12_isNotSo_37 : decode cX12_isNotSo 37 = .ok (.bipush 10, 2) := by decide +kernel
theorem dX12_isNotSo_39 : decode cX12_isNotSo 39 = .ok (.irem, 1) := by decide +kernel
theorem dX12_isNotSo_40 : decode cX12_isNotSo 40 = .ok (.aload_n 0, 1) := by decide +kernel
theorem dX12_isNotSo_41 : decode cX12_isNotSo 41 = .ok (.aload_n 1, 1) := by decide +kernel
theorem dX12_isNotSo_42 : decode cX12_isNotSo 42 = .ok (.iload_n 3, 1) := by decide +kernel
theorem dX12_isNotSo_43 : decode cX12_isNotSo 43 = .ok (.invokevirtual 123, 3) := by decide +kernel
theorem dX12_isNotSo_46 : decode cX12_isNotSo 46 = .ok (.if_icmp .ge 7, 3) := by decide +kernel
theorem dX12_isNotSo_49 : decode cX12_isNotSo 49 = .ok (.iconst 1, 1) := by decide +kernel
theorem dX12_isNotSo_50 : decode cX12_isNotSo 50 = .ok (.goto 4, 3) := by decide +kernel
theorem dX12_isNotSo_53 : decode cX12_isNotSo 53 = .ok (.iconst 0, 1) := by decide +kernel
theorem dX12_isNotSo_54 : decode cX12_isNotSo 54 = .ok (.ireturn, 1) := by decide +kernel
theorem dX12_negated_0 : decode cX12_negated 0 = .ok (.iload_n 0, 1) := by decide +kernel
theorem dX12_negated_1 : decode cX12_negated 1 = .ok (.bipush 100, 2) := by decide +kernel
theorem dX12_negated_3 : decode cX12_negated 3 = .ok (.idiv, 1) := by decide +kernel
theorem dX12_negated_4 : decode cX12_negated 4 = .ok (.istore_n 1, 1) := by decide +kernel
theorem dX12_negated_5 : decode cX12_negated 5 = .ok (.iload_n 0, 1) := by decide +kernel
theorem dX12_negated_6 : decode cX12_negated 6 = .ok (.bipush 10, 2) := by decide +kernel
theorem dX12_negated_8 : decode cX12_negated 8 = .ok (.idiv, 1) := by decide +kernel
theorem dX12_negated_9 : decode cX12_negated 9 = .ok (.bipush 10, 2) := by decide +kernel
theorem dX12_negated_11 : decode cX12_negated 11 = .ok (.irem, 1) := by decide +kernel
theorem dX12_negated_12 : decode cX12_negated 12 = .ok (.ifCond .ne 17, 3) := by decide +kernel
theorem dX12_negated_15 : decode cX12_negated 15 = .ok (.iload_n 1, 1) := by decide +kernel
theorem dX12_negated_16 : decode cX12_negated 16 = .ok (.iconst 1, 1) := by decide +kernel
theorem dX12_negated_17 : decode cX12_negated 17 = .ok (.iload_n 0, 1) := by decide +kernel
theorem dX12_negated_18 : decode cX12_negated 18 = .ok (.bipush 10, 2) := by decide +kernel
theorem dX12_negated_20 : decode cX12_negated 20 = .ok (.irem, 1) := by decide +kernel
theorem dX12_negated_21 : decode cX12_negated 21 = .ok (.iconst 1, 1) := by decide +kernel
theorem dX12_negated_22 : decode cX12_negated 22 = .ok (.isub, 1) := by decide +kernel
theorem dX12_negated_23 : decode cX12_negated 23 = .ok (.invokestatic 130, 3) := by decide +kernel
theorem dX12_negated_26 : decode cX12_negated 26 = .ok (.goto 14, 3) := by decide +kernel
theorem dX12_negated_29 : decode cX12_negated 29 = .ok (.iload_n 1, 1) := by decide +kernel
theorem dX12_negated_30 : decode cX12_negated 30 = .ok (.iconst 0, 1) := by decide +kernel
theorem dX12_negated_31 : decode cX12_negated 31 = .ok (.iload_n 0, 1) := by decide +kernel
theorem dX12_negated_32 : decode cX12_negated 32 = .ok (.bipush 10, 2) := by decide +kernel
theorem dX12_negated_34 : decode cX12_negated 34 = .ok (.irem, 1) := by decide +kernel
theorem dX12_negated_35 : decode cX12_negated 35 = .ok (.iconst 1, 1) := by decide +kernel
theorem dX12_negated_36 : decode cX12_negated 36 = .ok (.iadd, 1) := by decide +kernel
theorem dX12_negated_37 : decode cX12_negated 37 = .ok (.invokestatic 130, 3) := by decide +kernel
theorem dX12_negated_40 : decode cX12_negated 40 = .ok (.ireturn, 1) := by decide +kernel
theorem dX12_levelOf_0 : decode cX12_levelOf 0 = .ok (.aload_n 1, 1) := by decide +kernel
theorem dX12_levelOf_1 : decode cX12_levelOf 1 = .ok (.iconst 0, 1) := by decide +kernel
theorem dX12_levelOf_2 : decode cX12_levelOf 2 = .ok (.iaload, 1) := by decide +kernel
theorem dX12_levelOf_3 : decode cX12_levelOf 3 = .ok (.ifCond .ne 7, 3) := by decide +kernel
theorem dX12_levelOf_6 : decode cX12_levelOf 6 = .ok (.iconst 0, 1) := by decide +kernel
theorem dX12_levelOf_7 : decode cX12_levelOf 7 = .ok (.goto 13, 3) := by decide +kernel
theorem dX12_levelOf_10 : decode cX12_levelOf 10 = .ok (.aload_n 1, 1) := by decide +kernel
theorem dX12_levelOf_11 : decode cX12_levelOf 11 = .ok (.bipush 37, 2) := by decide +kernel
theorem dX12_levelOf_13 : decode cX12_levelOf 13 = .ok (.aload_n 1, 1) := by decide +kernel
theorem dX12_levelOf_14 : decode cX12_levelOf 14 = .ok (.iconst 0, 1) := by decide +kernel
theorem dX12_levelOf_15 : decode cX12_levelOf 15 = .ok (.iaload, 1) := by decide +kernel
theorem dX12_levelOf_16 : decode cX12_levelOf 16 = .ok (.iadd, 1) := by decide +kernel
theorem dX12_levelOf_17 : decode cX12_levelOf 17 = .ok (.iconst 1, 1) := by decide +kernel
theorem dX12_levelOf_18 : decode cX12_levelOf 18 = .ok (.isub, 1) := by decide +kernel
theorem dX12_levelOf_19 : decode cX12_levelOf 19 = .ok (.iaload, 1) := by decide +kernel
theorem dX12_levelOf_20 : decode cX12_levelOf 20 = .ok (.ireturn, 1) := by decide +kernel
theorem dX12_weightOf_0 : decode cX12_weightOf 0 = .ok (.aload_n 0, 1) := by decide +kernel
theorem dX12_weightOf_1 : decode cX12_weightOf 1 = .ok (.getfield 16, 3) := by decide +kernel
theorem dX12_weightOf_4 : decode cX12_weightOf 4 = .ok (.iconst 4, 1) := by decide +kernel
theorem dX12_weightOf_5 : decode cX12_weightOf 5 = .ok (.iload_n 1, 1) := by decide +kernel
theorem dX12_weightOf_6 : decode cX12_weightOf 6 = .ok (.imul, 1) := by decide +kernel
theorem dX12_weightOf_7 : decode cX12_weightOf 7 = .ok (.iload_n 2, 1) := by decide +kernel
theorem dX12_weightOf_8 : decode cX12_weightOf 8 = .ok (.iadd, 1) := by decide +kernel
theorem dX12_weightOf_9 : decode cX12_weightOf 9 = .ok (.iaload, 1) := by decide +kernel
theorem dX12_weightOf_10 : decode cX12_weightOf 10 = .ok (.ireturn, 1) := by decide +kernel
theorem dX12_leastOf_0 : decode cX12_leastOf 0 = .ok (.iconst 0, 1) := by decide +kernel
theorem dX12_leastOf_1 : decode cX12_leastOf 1 = .ok (.istore_n 3, 1) := by decide +kernel
theorem dX12_leastOf_2 : decode cX12_leastOf 2 = .ok (.iconst 0, 1) := by decide +kernel
theorem dX12_leastOf_3 : decode cX12_leastOf 3 = .ok (.istore 4, 2) := by decide +kernel
theorem dX12_leastOf_5 : decode cX12_leastOf 5 = .ok (.iload 4, 2) := by decide +kernel
theorem dX12_leastOf_7 : decode cX12_leastOf 7 = .ok (.aload_n 0, 1) := by decide +kernel
theorem dX12_leastOf_8 : decode cX12_leastOf 8 = .ok (.getfield 65, 3) := by decide +kernel
theorem dX12_leastOf_11 : decode cX12_leastOf 11 = .ok (.if_icmp .ge 49, 3) := by decide +kernel
theorem dX12_leastOf_14 : decode cX12_leastOf 14 = .ok (.aload_n 0, 1) := by decide +kernel
theorem dX12_leastOf_15 : decode cX12_leastOf 15 = .ok (.iload_n 2, 1) := by decide +kernel
theorem dX12_leastOf_16 : decode cX12_leastOf 16 = .ok (.iload 4, 2) := by decide +kernel
theorem dX12_leastOf_18 : decode cX12_leastOf 18 = .ok (.invokevirtual 134, 3) := by decide +kernel
theorem dX12_leastOf_21 : decode cX12_leastOf 21 = .ok (.istore 5, 2) := by decide +kernel
theorem dX12_leastOf_23 : decode cX12_leastOf 23 = .ok (.iload_n 3, 1) := by decide +kernel
theorem dX12_leastOf_24 : decode cX12_leastOf 24 = .ok (.iload 5, 2) := by decide +kernel
theorem dX12_leastOf_26 : decode cX12_leastOf 26 = .ok (.ifCond .le 16, 3) := by decide +kernel
theorem dX12_leastOf_29 : decode cX12_leastOf 29 = .ok (.iload 5, 2) := by decide +kernel
theorem dX12_leastOf_31 : decode cX12_leastOf 31 = .ok (.aload_n 0, 1) := by decide +kernel
theorem dX12_leastOf_32 : decode cX12_leastOf 32 = .ok (.aload_n 1, 1) := by decide +kernel
theorem dX12_leastOf_33 : decode cX12_leastOf 33 = .ok (.iload 4, 2) := by decide +kernel
theorem dX12_leastOf_35 : decode cX12_leastOf 35 = .ok (.invokevirtual 123, 3) := by decide +kernel
theorem dX12_leastOf_38 : decode cX12_leastOf 38 = .ok (.imul, 1) := by decide +kernel
theorem dX12_leastOf_39 : decode cX12_leastOf 39 = .ok (.goto 13, 3) := by decide +kernel
theorem dX12_leastOf_42 : decode cX12_leastOf 42 = .ok (.iload 5, 2) := by decide +kernel
theorem dX12_leastOf_44 : decode cX12_leastOf 44 = .ok (.aload_n 0, 1) := by decide +kernel
theorem dX12_leastOf_45 : decode cX12_leastOf 45 = .ok (.aload_n 1, 1) := by decide +kernel
theorem dX12_leastOf_46 : decode cX12_leastOf 46 = .ok (.iload 4, 2) := by decide +kernel
theorem dX12_leastOf_48 : decode cX12_leastOf 48 = .ok (.invokevirtual 127, 3) := by decide +kernel
theorem dX12_leastOf_51 : decode cX12_leastOf 51 = .ok (.imul, 1) := by decide +kernel
theorem dX12_leastOf_52 : decode cX12_leastOf 52 = .ok (.iadd, 1) := by decide +kernel
theorem dX12_leastOf_53 : decode cX12_leastOf 53 = .ok (.istore_n 3, 1) := by decide +kernel
theorem dX12_leastOf_54 : decode cX12_leastOf 54 = .ok (.iinc 4 1, 3) := by decide +kernel
theorem dX12_leastOf_57 : decode cX12_leastOf 57 = .ok (.goto (-52), 3) := by decide +kernel
theorem dX12_leastOf_60 : decode cX12_leastOf 60 = .ok (.iload_n 3, 1) := by decide +kernel
theorem dX12_leastOf_61 : decode cX12_leastOf 61 = .ok (.ireturn, 1) := by decide +kernel
theorem dX12_cutMark_0 : decode cX12_cutMark 0 = .ok (.aload_n 1, 1) := by decide +kernel
theorem dX12_cutMark_1 : decode cX12_cutMark 1 = .ok (.sipush 150, 3) := by decide +kernel
theorem dX12_cutMark_4 : decode cX12_cutMark 4 = .ok (.bipush 8, 2) := by decide +kernel
theorem dX12_cutMark_6 : decode cX12_cutMark 6 = .ok (.iload_n 2, 1) := by decide +kernel
theorem dX12_cutMark_7 : decode cX12_cutMark 7 = .ok (.imul, 1) := by decide +kernel
theorem dX12_cutMark_8 : decode cX12_cutMark 8 = .ok (.iadd, 1) := by decide +kernel
theorem dX12_cutMark_9 : decode cX12_cutMark 9 = .ok (.iload_n 3, 1) := by decide +kernel
theorem dX12_cutMark_10 : decode cX12_cutMark 10 = .ok (.iadd, 1) := by decide +kernel
theorem dX12_cutMark_11 : decode cX12_cutMark 11 = .ok (.iaload, 1) := by decide +kernel
theorem dX12_cutMark_12 : decode cX12_cutMark 12 = .ok (.ireturn, 1) := by decide +kernel
theorem dX12_areSo_0 : decode cX12_areSo 0 = .ok (.iconst 0, 1) := by decide +kernel
theorem dX12_areSo_1 : decode cX12_areSo 1 = .ok (.istore_n 3, 1) := by decide +kernel
theorem dX12_areSo_2 : decode cX12_areSo 2 = .ok (.iconst 0, 1) := by decide +kernel
theorem dX12_areSo_3 : decode cX12_areSo 3 = .ok (.istore 4, 2) := by decide +kernel
theorem dX12_areSo_5 : decode cX12_areSo 5 = .ok (.iload 4, 2) := by decide +kernel
theorem dX12_areSo_7 : decode cX12_areSo 7 = .ok (.aload_n 1, 1) := by decide +kernel
theorem dX12_areSo_8 : decode cX12_areSo 8 = .ok (.bipush 110, 2) := by decide +kernel
theorem dX12_areSo_10 : decode cX12_areSo 10 = .ok (.iload_n 2, 1) := by decide +kernel
theorem dX12_areSo_11 : decode cX12_areSo 11 = .ok (.iadd, 1) := by decide +kernel
theorem dX12_areSo_12 : decode cX12_areSo 12 = .ok (.iaload, 1) := by decide +kernel
theorem dX12_areSo_13 : decode cX12_areSo 13 = .ok (.if_icmp .ge 33, 3) := by decide +kernel
theorem dX12_areSo_16 : decode cX12_areSo 16 = .ok (.iload_n 3, 1) := by decide +kernel
theorem dX12_areSo_17 : decode cX12_areSo 17 = .ok (.aload_n 0, 1) := by decide +kernel
theorem dX12_areSo_18 : decode cX12_areSo 18 = .ok (.aload_n 1, 1) := by decide +kernel
theorem dX12_areSo_19 : decode cX12_areSo 19 = .ok (.aload_n 0, 1) := by decide +kernel
theorem dX12_areSo_20 : decode cX12_areSo 20 = .ok (.aload_n 1, 1) := by decide +kernel
theorem dX12_areSo_21 : decode cX12_areSo 21 = .ok (.iload_n 2, 1) := by decide +kernel
theorem dX12_areSo_22 : decode cX12_areSo 22 = .ok (.iload 4, 2) := by decide +kernel
theorem dX12_areSo_24 : decode cX12_areSo 24 = .ok (.invokevirtual 138, 3) := by decide +kernel
theorem dX12_areSo_27 : decode cX12_areSo 27 = .ok (.invokevirtual 141, 3) := by decide +kernel
theorem dX12_areSo_30 : decode cX12_areSo 30 = .ok (.ifCond .eq 7, 3) := by decide +kernel
theorem dX12_areSo_33 : decode cX12_areSo 33 = .ok (.iconst 1, 1) := by decide +kernel
theorem dX12_areSo_34 : decode cX12_areSo 34 = .ok (.goto 4, 3) := by decide +kernel
theorem dX12_areSo_37 : decode cX12_areSo 37 = .ok (.iconst 0, 1) := by decide +kernel
theorem dX12_areSo_38 : decode cX12_areSo 38 = .ok (.iadd, 1) := by decide +kernel
theorem dX12_areSo_39 : decode cX12_areSo 39 = .ok (.istore_n 3, 1) := by decide +kernel
theorem dX12_areSo_40 : decode cX12_areSo 40 = .ok (.iinc 4 1, 3) := by decide +kernel
theorem dX12_areSo_43 : decode cX12_areSo 43 = .ok (.goto (-38), 3) := by decide +kernel
theorem dX12_areSo_46 : decode cX12_areSo 46 = .ok (.iload_n 3, 1) := by decide +kernel
theorem dX12_areSo_47 : decode cX12_areSo 47 = .ok (.ireturn, 1) := by decide +kernel
theorem dX12_breakOf_0 : decode cX12_breakOf 0 = .ok (.iconst 0, 1) := by decide +kernel
theorem dX12_breakOf_1 : decode cX12_breakOf 1 = .ok (.istore_n 2, 1) := by decide +kernel
theorem dX12_breakOf_2 : decode cX12_breakOf 2 = .ok (.iload_n 2, 1) := by decide +kernel
theorem dX12_breakOf_3 : decode cX12_breakOf 3 = .ok (.aload_n 0, 1) := by decide +kernel
theorem dX12_breakOf_4 : decode cX12_breakOf 4 = .ok (.getfield 145, 3) := by decide +kernel
theorem dX12_breakOf_7 : decode cX12_breakOf 7 = .ok (.if_icmp .ge 26, 3) := by decide +kernel
theorem dX12_breakOf_10 : decode cX12_breakOf 10 = .ok (.aload_n 0, 1) := by decide +kernel
theorem dX12_breakOf_11 : decode cX12_breakOf 11 = .ok (.aload_n 1, 1) := by decide +kernel
theorem dX12_breakOf_12 : decode cX12_breakOf 12 = .ok (.iload_n 2, 1) := by decide +kernel
theorem dX12_breakOf_13 : decode cX12_breakOf 13 = .ok (.invokevirtual 148, 3) := by decide +kernel
theorem dX12_breakOf_16 : decode cX12_breakOf 16 = .ok (.aload_n 0, 1) := by decide +kernel
theorem dX12_breakOf_17 : decode cX12_breakOf 17 = .ok (.getfield 19, 3) := by decide +kernel
theorem dX12_breakOf_20 : decode cX12_breakOf 20 = .ok (.iload_n 2, 1) := by decide +kernel
theorem dX12_breakOf_21 : decode cX12_breakOf 21 = .ok (.iaload, 1) := by decide +kernel
theorem dX12_breakOf_22 : decode cX12_breakOf 22 = .ok (.if_icmp .le 5, 3) := by decide +kernel
theorem dX12_breakOf_25 : decode cX12_breakOf 25 = .ok (.iload_n 2, 1) := by decide +kernel
theorem dX12_breakOf_26 : decode cX12_breakOf 26 = .ok (.ireturn, 1) := by decide +kernel
theorem dX12_breakOf_27 : decode cX12_breakOf 27 = .ok (.iinc 2 1, 3) := by decide +kernel
theorem dX12_breakOf_30 : decode cX12_breakOf 30 = .ok (.goto (-28), 3) := by decide +kernel
theorem dX12_breakOf_33 : decode cX12_breakOf 33 = .ok (.iconst 0, 1) := by decide +kernel
theorem dX12_breakOf_34 : decode cX12_breakOf 34 = .ok (.istore_n 2, 1) := by decide +kernel
theorem dX12_breakOf_35 : decode cX12_breakOf 35 = .ok (.iload_n 2, 1) := by decide +kernel
theorem dX12_breakOf_36 : decode cX12_breakOf 36 = .ok (.aload_n 1, 1) := by decide +kernel
theorem dX12_breakOf_37 : decode cX12_breakOf 37 = .ok (.bipush 109, 2) := by decide +kernel
theorem dX12_breakOf_39 : decode cX12_breakOf 39 = .ok (.iaload, 1) := by decide +kernel
theorem dX12_breakOf_40 : decode cX12_breakOf 40 = .ok (.if_icmp .ge 29, 3) := by decide +kernel
theorem dX12_breakOf_43 : decode cX12_breakOf 43 = .ok (.aload_n 0, 1) := by decide +kernel
theorem dX12_breakOf_44 : decode cX12_breakOf 44 = .ok (.aload_n 1, 1) := by decide +kernel
theorem dX12_breakOf_45 : decode cX12_breakOf 45 = .ok (.iload_n 2, 1) := by decide +kernel
theorem dX12_breakOf_46 : decode cX12_breakOf 46 = .ok (.invokevirtual 151, 3) := by decide +kernel
theorem dX12_breakOf_49 : decode cX12_breakOf 49 = .ok (.aload_n 1, 1) := by decide +kernel
theorem dX12_breakOf_50 : decode cX12_breakOf 50 = .ok (.bipush 110, 2) := by decide +kernel
theorem dX12_breakOf_52 : decode cX12_breakOf 52 = .ok (.iload_n 2, 1) := by decide +kernel
theorem dX12_breakOf_53 : decode cX12_breakOf 53 = .ok (.iadd, 1) := by decide +kernel
theorem dX12_breakOf_54 : decode cX12_breakOf 54 = .ok (.iaload, 1) := by decide +kernel
theorem dX12_breakOf_55 : decode cX12_breakOf 55 = .ok (.if_icmp .ne 8, 3) := by decide +kernel
theorem dX12_breakOf_58 : decode cX12_breakOf 58 = .ok (.bipush 10, 2) := by decide +kernel
theorem dX12_breakOf_60 : decode cX12_breakOf 60 = .ok (.iload_n 2, 1) := by decide +kernel
theorem dX12_breakOf_61 : decode cX12_breakOf 61 = .ok (.iadd, 1) := by decide +kernel
theorem dX12_breakOf_62 : decode cX12_breakOf 62 = .ok (.ireturn, 1) := by decide +kernel
theorem dX12_breakOf_63 : decode cX12_breakOf 63 = .ok (.iinc 2 1, 3) := by decide +kernel
theorem dX12_breakOf_66 : decode cX12_breakOf 66 = .ok (.goto (-31), 3) := by decide +kernel
theorem dX12_breakOf_69 : decode cX12_breakOf 69 = .ok (.bipush (-9), 2) := by decide +kernel
theorem dX12_breakOf_71 : decode cX12_breakOf 71 = .ok (.ireturn, 1) := by decide +kernel
theorem dX12_tell_0 : decode cX12_tell 0 = .ok (.aload_n 0, 1) := by decide +kernel
theorem dX12_tell_1 : decode cX12_tell 1 = .ok (.iload_n 1, 1) := by decide +kernel
theorem dX12_tell_2 : decode cX12_tell 2 = .ok (.putfield 154, 3) := by decide +kernel
theorem dX12_tell_5 : decode cX12_tell 5 = .ok (.aload_n 0, 1) := by decide +kernel
theorem dX12_tell_6 : decode cX12_tell 6 = .ok (.iload_n 2, 1) := by decide +kernel
theorem dX12_tell_7 : decode cX12_tell 7 = .ok (.putfield 157, 3) := by decide +kernel
theorem dX12_tell_10 : decode cX12_tell 10 = .ok (.iconst 1, 1) := by decide +kernel
theorem dX12_tell_11 : decode cX12_tell 11 = .ok (.ireturn, 1) := by decide +kernel
theorem dX12_ruleTells_0 : decode cX12_ruleTells 0 = .ok (.aload_n 0, 1) := by decide +kernel
theorem dX12_ruleTells_1 : decode cX12_ruleTells 1 = .ok (.getfield 19, 3) := by decide +kernel
theorem dX12_ruleTells_4 : decode cX12_ruleTells 4 = .ok (.iload_n 2, 1) := by decide +kernel
theorem dX12_ruleTells_5 : decode cX12_ruleTells 5 = .ok (.iaload, 1) := by decide +kernel
theorem dX12_ruleTells_6 : decode cX12_ruleTells 6 = .ok (.aload_n 0, 1) := by decide +kernel
theorem dX12_ruleTells_7 : decode cX12_ruleTells 7 = .ok (.aload_n 1, 1) := by decide +kernel
theorem dX12_ruleTells_8 : decode cX12_ruleTells 8 = .ok (.iload_n 2, 1) := by decide +kernel
theorem dX12_ruleTells_9 : decode cX12_ruleTells 9 = .ok (.invokevirtual 148, 3) := by decide +kernel
theorem dX12_ruleTells_12 : decode cX12_ruleTells 12 = .ok (.isub, 1) := by decide +kernel
theorem dX12_ruleTells_13 : decode cX12_ruleTells 13 = .ok (.istore_n 3, 1) := by decide +kernel
theorem dX12_ruleTells_14 : decode cX12_ruleTells 14 = .ok (.iconst 0, 1) := by decide +kernel
theorem dX12_ruleTells_15 : decode cX12_ruleTells 15 = .ok (.istore 4, 2) := by decide +kernel
theorem dX12_ruleTells_17 : decode cX12_ruleTells 17 = .ok (.iload 4, 2) := by decide +kernel
theorem dX12_ruleTells_19 : decode cX12_ruleTells 19 = .ok (.aload_n 0, 1) := by decide +kernel
theorem dX12_ruleTells_20 : decode cX12_ruleTells 20 = .ok (.getfield 65, 3) := by decide +kernel
theorem dX12_ruleTells_23 : decode cX12_ruleTells 23 = .ok (.if_icmp .ge 110, 3) := by decide +kernel
theorem dX12_ruleTells_26 : decode cX12_ruleTells 26 = .ok (.aload_n 0, 1) := by decide +kernel
theorem dX12_ruleTells_27 : decode cX12_ruleTells 27 = .ok (.iload_n 2, 1) := by decide +kernel
theorem dX12_ruleTells_28 : decode cX12_ruleTells 28 = .ok (.iload 4, 2) := by decide +kernel
theorem dX12_ruleTells_30 : decode cX12_ruleTells 30 = .ok (.invokevirtual 134, 3) := by decide +kernel
theorem dX12_ruleTells_33 : decode cX12_ruleTells 33 = .ok (.istore 5, 2) := by decide +kernel
theorem dX12_ruleTells_35 : decode cX12_ruleTells 35 = .ok (.aload_n 0, 1) := by decide +kernel
theorem dX12_ruleTells_36 : decode cX12_ruleTells 36 = .ok (.aload_n 1, 1) := by decide +kernel
theorem dX12_ruleTells_37 : decode cX12_ruleTells 37 = .ok (.iload 4, 2) := by decide +kernel
theorem dX12_ruleTells_39 : decode cX12_ruleTells 39 = .ok (.invokevirtual 123, 3) := by decide +kernel
theorem dX12_ruleTells_42 : decode cX12_ruleTells 42 = .ok (.istore 6, 2) := by decide +kernel
theorem dX12_ruleTells_44 : decode cX12_ruleTells 44 = .ok (.aload_n 0, 1) := by decide +kernel
theorem dX12_ruleTells_45 : decode cX12_ruleTells 45 = .ok (.aload_n 1, 1) := by decide +kernel
theorem dX12_ruleTells_46 : decode cX12_ruleTells 46 = .ok (.iload 4, 2) := by decide +kernel
theorem dX12_ruleTells_48 : decode cX12_ruleTells 48 = .ok (.invokevirtual 127, 3) := by decide +kernel
theorem dX12_ruleTells_51 : decode cX12_ruleTells 51 = .ok (.istore 7, 2) := by decide +kernel
theorem dX12_ruleTells_53 : decode cX12_ruleTells 53 = .ok (.iload 5, 2) := by decide +kernel
theorem dX12_ruleTells_55 : decode cX12_ruleTells 55 = .ok (.ifCond .le 34, 3) := by decide +kernel
theorem dX12_ruleTells_58 : decode cX12_ruleTells 58 = .ok (.iload 6, 2) := by decide +kernel
theorem dX12_ruleTells_60 : decode cX12_ruleTells 60 = .ok (.iload_n 3, 1) := by decide +kernel
theorem dX12_ruleTells_61 : decode cX12_ruleTells 61 = .ok (.iload 5, 2) := by decide +kernel
theorem dX12_ruleTells_63 : decode cX12_ruleTells 63 = .ok (.idiv, 1) := by decide +kernel
theorem dX12_ruleTells_64 : decode cX12_ruleTells 64 = .ok (.iadd, 1) := by decide +kernel
theorem dX12_ruleTells_65 : decode cX12_ruleTells 65 = .ok (.iload 7, 2) := by decide +kernel
theorem dX12_ruleTells_67 : decode cX12_ruleTells 67 = .ok (.if_icmp .ge 22, 3) := by decide +kernel
theorem dX12_ruleTells_70 : decode cX12_ruleTells 70 = .ok (.aload_n 0, 1) := by decide +kernel
theorem dX12_ruleTells_71 : decode cX12_ruleTells 71 = .ok (.iload 4, 2) := by decide +kernel
theorem dX12_ruleTells_73 : decode cX12_ruleTells 73 = .ok (.iconst 1, 1) := by decide +kernel
theorem dX12_ruleTells_74 : decode cX12_ruleTells 74 = .ok (.iload 6, 2) := by decide +kernel
theorem dX12_ruleTells_76 : decode cX12_ruleTells 76 = .ok (.iload_n 3, 1) := by decide +kernel
theorem dX12_ruleTells_77 : decode cX12_ruleTells 77 = .ok (.iload 5, 2) := by decide +kernel
theorem dX12_ruleTells_79 : decode cX12_ruleTells 79 = .ok (.idiv, 1) := by decide +kernel
theorem dX12_ruleTells_80 : decode cX12_ruleTells 80 = .ok (.iadd, 1) := by decide +kernel
theorem dX12_ruleTells_81 : decode cX12_ruleTells 81 = .ok (.invokestatic 130, 3) := by decide +kernel
theorem dX12_ruleTells_84 : decode cX12_ruleTells 84 = .ok (.iload_n 2, 1) := by decide +kernel
theorem dX12_ruleTells_85 : decode cX12_ruleTells 85 = .ok (.invokevirtual 160, 3) := by decide +kernel
theorem dX12_ruleTells_88 : decode cX12_ruleTells 88 = .ok (.ireturn, 1) := by decide +kernel
theorem dX12_ruleTells_89 : decode cX12_ruleTells 89 = .ok (.iload 5, 2) := by decide +kernel
theorem dX12_ruleTells_91 : decode cX12_ruleTells 91 = .ok (.ifCond .ge 36, 3) := by decide +kernel
theorem dX12_ruleTells_94 : decode cX12_ruleTells 94 = .ok (.iload 7, 2) := by decide +kernel
theorem dX12_ruleTells_96 : decode cX12_ruleTells 96 = .ok (.iload_n 3, 1) := by decide +kernel
theorem dX12_ruleTells_97 : decode cX12_ruleTells 97 = .ok (.iload 5, 2) := by decide +kernel
theorem dX12_ruleTells_99 : decode cX12_ruleTells 99 = .ok (.ineg, 1) := by decide +kernel
theorem dX12_ruleTells_100 : decode cX12_ruleTells 100 = .ok (.idiv, 1) := by decide +kernel
theorem dX12_ruleTells_101 : decode cX12_ruleTells 101 = .ok (.isub, 1) := by decide +kernel
theorem dX12_ruleTells_102 : decode cX12_ruleTells 102 = .ok (.iload 6, 2) := by decide +kernel
theorem dX12_ruleTells_104 : decode cX12_ruleTells 104 = .ok (.if_icmp .le 23, 3) := by decide +kernel
theorem dX12_ruleTells_107 : decode cX12_ruleTells 107 = .ok (.aload_n 0, 1) := by decide +kernel
theorem dX12_ruleTells_108 : decode cX12_ruleTells 108 = .ok (.iload 4, 2) := by decide +kernel
theorem dX12_ruleTells_110 : decode cX12_ruleTells 110 = .ok (.iconst 0, 1) := by decide +kernel
theorem dX12_ruleTells_111 : decode cX12_ruleTells 111 = .ok (.iload 7, 2) := by decide +kernel
theorem dX12_ruleTells_113 : decode cX12_ruleTells 113 = .ok (.iload_n 3, 1) := by decide +kernel
theorem dX12_ruleTells_114 : decode cX12_ruleTells 114 = .ok (.iload 5, 2) := by decide +kernel
theorem dX12_ruleTells_116 : decode cX12_ruleTells 116 = .ok (.ineg, 1) := by decide +kernel
theorem dX12_ruleTells_117 : decode cX12_ruleTells 117 = .ok (.idiv, 1) := by decide +kernel
theorem dX12_ruleTells_118 : decode cX12_ruleTells 118 = .ok (.isub, 1) := by decide +kernel
theorem dX12_ruleTells_119 : decode cX12_ruleTells 119 = .ok (.invokestatic 130, 3) := by decide +kernel
theorem dX12_ruleTells_122 : decode cX12_ruleTells 122 = .ok (.iload_n 2, 1) := by decide +kernel
theorem dX12_ruleTells_123 : decode cX12_ruleTells 123 = .ok (.invokevirtual 160, 3) := by decide +kernel
theorem dX12_ruleTells_126 : decode cX12_ruleTells 126 = .ok (.ireturn, 1) := by decide +kernel
theorem dX12_ruleTells_127 : decode cX12_ruleTells 127 = .ok (.iinc 4 1, 3) := by decide +kernel
theorem dX12_ruleTells_130 : decode cX12_ruleTells 130 = .ok (.goto (-113), 3) := by decide +kernel
theorem dX12_ruleTells_133 : decode cX12_ruleTells 133 = .ok (.iconst 0, 1) := by decide +kernel
theorem dX12_ruleTells_134 : decode cX12_ruleTells 134 = .ok (.ireturn, 1) := by decide +kernel
theorem dX12_cutTells_0 : decode cX12_cutTells 0 = .ok (.aload_n 0, 1) := by decide +kernel
theorem dX12_cutTells_1 : decode cX12_cutTells 1 = .ok (.aload_n 1, 1) := by decide +kernel
theorem dX12_cutTells_2 : decode cX12_cutTells 2 = .ok (.iload_n 2, 1) := by decide +kernel
theorem dX12_cutTells_3 : decode cX12_cutTells 3 = .ok (.invokevirtual 151, 3) := by decide +kernel
theorem dX12_cutTells_6 : decode cX12_cutTells 6 = .ok (.aload_n 1, 1) := by decide +kernel
theorem dX12_cutTells_7 : decode cX12_cutTells 7 = .ok (.bipush 110, 2) := by decide +kernel
theorem dX12_cutTells_9 : decode cX12_cutTells 9 = .ok (.iload_n 2, 1) := by decide +kernel
theorem dX12_cutTells_10 : decode cX12_cutTells 10 = .ok (.iadd, 1) := by decide +kernel
theorem dX12_cutTells_11 : decode cX12_cutTells 11 = .ok (.iaload, 1) := by decide +kernel
theorem dX12_cutTells_12 : decode cX12_cutTells 12 = .ok (.iconst 1, 1) := by decide +kernel
theorem dX12_cutTells_13 : decode cX12_cutTells 13 = .ok (.isub, 1) := by decide +kernel
theorem dX12_cutTells_14 : decode cX12_cutTells 14 = .ok (.if_icmp .eq 5, 3) := by decide +kernel
theorem dX12_cutTells_17 : decode cX12_cutTells 17 = .ok (.iconst 0, 1) := by decide +kernel
theorem dX12_cutTells_18 : decode cX12_cutTells 18 = .ok (.ireturn, 1) := by decide +kernel
theorem dX12_cutTells_19 : decode cX12_cutTells 19 = .ok (.iconst 0, 1) := by decide +kernel
theorem dX12_cutTells_20 : decode cX12_cutTells 20 = .ok (.istore_n 3, 1) := by decide +kernel
theorem dX12_cutTells_21 : decode cX12_cutTells 21 = .ok (.iload_n 3, 1) := by decide +kernel
theorem dX12_cutTells_22 : decode cX12_cutTells 22 = .ok (.aload_n 1, 1) := by decide +kernel
theorem dX12_cutTells_23 : decode cX12_cutTells 23 = .ok (.bipush 110, 2) := by decide +kernel
theorem dX12_cutTells_25 : decode cX12_cutTells 25 = .ok (.iload_n 2, 1) := by decide +kernel
theorem dX12_cutTells_26 : decode cX12_cutTells 26 = .ok (.iadd, 1) := by decide +kernel
theorem dX12_cutTells_27 : decode cX12_cutTells 27 = .ok (.iaload, 1) := by decide +kernel
theorem dX12_cutTells_28 : decode cX12_cutTells 28 = .ok (.if_icmp .ge 52, 3) := by decide +kernel
theorem dX12_cutTells_31 : decode cX12_cutTells 31 = .ok (.aload_n 0, 1) := by decide +kernel
theorem dX12_cutTells_32 : decode cX12_cutTells 32 = .ok (.aload_n 1, 1) := by decide +kernel
theorem dX12_cutTells_33 : decode cX12_cutTells 33 = .ok (.iload_n 2, 1) := by decide +kernel
theorem dX12_cutTells_34 : decode cX12_cutTells 34 = .ok (.iload_n 3, 1) := by decide +kernel
theorem dX12_cutTells_35 : decode cX12_cutTells 35 = .ok (.invokevirtual 138, 3) := by decide +kernel
theorem dX12_cutTells_38 : decode cX12_cutTells 38 = .ok (.istore 4, 2) := by decide +kernel
theorem dX12_cutTells_40 : decode cX12_cutTells 40 = .ok (.aload_n 0, 1) := by decide +kernel
theorem dX12_cutTells_41 : decode cX12_cutTells 41 = .ok (.aload_n 1, 1) := by decide +kernel
theorem dX12_cutTells_42 : decode cX12_cutTells 42 = .ok (.iload 4, 2) := by decide +kernel
theorem dX12_cutTells_44 : decode cX12_cutTells 44 = .ok (.invokevirtual 141, 3) := by decide +kernel
theorem dX12_cutTells_47 : decode cX12_cutTells 47 = .ok (.ifCond .ne 27, 3) := by decide +kernel
theorem dX12_cutTells_50 : decode cX12_cutTells 50 = .ok (.aload_n 0, 1) := by decide +kernel
theorem dX12_cutTells_51 : decode cX12_cutTells 51 = .ok (.aload_n 1, 1) := by decide +kernel
theorem dX12_cutTells_52 : decode cX12_cutTells 52 = .ok (.iload 4, 2) := by decide +kernel
theorem dX12_cutTells_54 : decode cX12_cutTells 54 = .ok (.invokevirtual 163, 3) := by decide +kernel
theorem dX12_cutTells_57 : decode cX12_cutTells 57 = .ok (.ifCond .ne 17, 3) := by decide +kernel
theorem dX12_cutTells_60 : decode cX12_cutTells 60 = .ok (.aload_n 0, 1) := by decide +kernel
theorem dX12_cutTells_61 : decode cX12_cutTells 61 = .ok (.iload 4, 2) := by decide +kernel
theorem dX12_cutTells_63 : decode cX12_cutTells 63 = .ok (.invokestatic 166, 3) := by decide +kernel
theorem dX12_cutTells_66 : decode cX12_cutTells 66 = .ok (.bipush 10, 2) := by decide +kernel
theorem dX12_cutTells_68 : decode cX12_cutTells 68 = .ok (.iload_n 2, 1) := by decide +kernel
theorem dX12_cutTells_69 : decode cX12_cutTells 69 = .ok (.iadd, 1) := by decide +kernel
theorem dX12_cutTells_70 : decode cX12_cutTells 70 = .ok (.invokevirtual 160, 3) := by decide +kernel
theorem dX12_cutTells_73 : decode cX12_cutTells 73 = .ok (.ireturn, 1) := by decide +kernel
theorem dX12_cutTells_74 : decode cX12_cutTells 74 = .ok (.iinc 3 1, 3) := by decide +kernel
theorem dX12_cutTells_77 : decode cX12_cutTells 77 = .ok (.goto (-56), 3) := by decide +kernel
theorem dX12_cutTells_80 : decode cX12_cutTells 80 = .ok (.iconst 0, 1) := by decide +kernel
theorem dX12_cutTells_81 : decode cX12_cutTells 81 = .ok (.ireturn, 1) := by decide +kernel
theorem dX12_tells_0 : decode cX12_tells 0 = .ok (.iconst 0, 1) := by decide +kernel
theorem dX12_tells_1 : decode cX12_tells 1 = .ok (.istore_n 2, 1) := by decide +kernel
theorem dX12_tells_2 : decode cX12_tells 2 = .ok (.iconst 0, 1) := by decide +kernel
theorem dX12_tells_3 : decode cX12_tells 3 = .ok (.istore_n 3, 1) := by decide +kernel
theorem dX12_tells_4 : decode cX12_tells 4 = .ok (.iload_n 3, 1) := by decide +kernel
theorem dX12_tells_5 : decode cX12_tells 5 = .ok (.aload_n 0, 1) := by decide +kernel
theorem dX12_tells_6 : decode cX12_tells 6 = .ok (.getfield 145, 3) := by decide +kernel
theorem dX12_tells_9 : decode cX12_tells 9 = .ok (.if_icmp .ge 20, 3) := by decide +kernel
theorem dX12_tells_12 : decode cX12_tells 12 = .ok (.iload_n 2, 1) := by decide +kernel
theorem dX12_tells_13 : decode cX12_tells 13 = .ok (.ifCond .ne 16, 3) := by decide +kernel
theorem dX12_tells_16 : decode cX12_tells 16 = .ok (.aload_n 0, 1) := by decide +kernel
theorem dX12_tells_17 : decode cX12_tells 17 = .ok (.aload_n 1, 1) := by decide +kernel
theorem dX12_tells_18 : decode cX12_tells 18 = .ok (.iload_n 3, 1) := by decide +kernel
theorem dX12_tells_19 : decode cX12_tells 19 = .ok (.invokevirtual 170, 3) := by decide +kernel
theorem dX12_tells_22 : decode cX12_tells 22 = .ok (.istore_n 2, 1) := by decide +kernel
theorem dX12_tells_23 : decode cX12_tells 23 = .ok (.iinc 3 1, 3) := by decide +kernel
theorem dX12_tells_26 : decode cX12_tells 26 = .ok (.goto (-22), 3) := by decide +kernel
theorem dX12_tells_29 : decode cX12_tells 29 = .ok (.iconst 0, 1) := by decide +kernel
theorem dX12_tells_30 : decode cX12_tells 30 = .ok (.istore_n 3, 1) := by decide +kernel
theorem dX12_tells_31 : decode cX12_tells 31 = .ok (.iload_n 3, 1) := by decide +kernel
theorem dX12_tells_32 : decode cX12_tells 32 = .ok (.aload_n 1, 1) := by decide +kernel
theorem dX12_tells_33 : decode cX12_tells 33 = .ok (.bipush 109, 2) := by decide +kernel
theorem dX12_tells_35 : decode cX12_tells 35 = .ok (.iaload, 1) := by decide +kernel
theorem dX12_tells_36 : decode cX12_tells 36 = .ok (.if_icmp .ge 20, 3) := by decide +kernel
theorem dX12_tells_39 : decode cX12_tells 39 = .ok (.iload_n 2, 1) := by decide +kernel
theorem dX12_tells_40 : decode cX12_tells 40 = .ok (.ifCond .ne 16, 3) := by decide +kernel
theorem dX12_tells_43 : decode cX12_tells 43 = .ok (.aload_n 0, 1) := by decide +kernel
theorem dX12_tells_44 : decode cX12_tells 44 = .ok (.aload_n 1, 1) := by decide +kernel
theorem dX12_tells_45 : decode cX12_tells 45 = .ok (.iload_n 3, 1) := by decide +kernel
theorem dX12_tells_46 : decode cX12_tells 46 = .ok (.invokevirtual 173, 3) := by decide +kernel
theorem dX12_tells_49 : decode cX12_tells 49 = .ok (.istore_n 2, 1) := by decide +kernel
theorem dX12_tells_50 : decode cX12_tells 50 = .ok (.iinc 3 1, 3) := by decide +kernel
theorem dX12_tells_53 : decode cX12_tells 53 = .ok (.goto (-22), 3) := by decide +kernel
theorem dX12_tells_56 : decode cX12_tells 56 = .ok (.iload_n 2, 1) := by decide +kernel
theorem dX12_tells_57 : decode cX12_tells 57 = .ok (.ireturn, 1) := by decide +kernel
theorem dX12_append_0 : decode cX12_append 0 = .ok (.aload_n 1, 1) := by decide +kernel
theorem dX12_append_1 : decode cX12_append 1 = .ok (.iconst 0, 1) := by decide +kernel
theorem dX12_append_2 : decode cX12_append 2 = .ok (.iaload, 1) := by decide +kernel
theorem dX12_append_3 : decode cX12_append 3 = .ok (.istore 5, 2) := by decide +kernel
theorem dX12_append_5 : decode cX12_append 5 = .ok (.aload_n 1, 1) := by decide +kernel
theorem dX12_append_6 : decode cX12_append 6 = .ok (.iconst 1, 1) := by decide +kernel
theorem dX12_append_7 : decode cX12_append 7 = .ok (.iload 5, 2) := by decide +kernel
theorem dX12_append_9 : decode cX12_append 9 = .ok (.iadd, 1) := by decide +kernel
theorem dX12_append_10 : decode cX12_append 10 = .ok (.iload_n 2, 1) := by decide +kernel
theorem dX12_append_11 : decode cX12_append 11 = .ok (.iastore, 1) := by decide +kernel
theorem dX12_append_12 : decode cX12_append 12 = .ok (.aload_n 1, 1) := by decide +kernel
theorem dX12_append_13 : decode cX12_append 13 = .ok (.bipush 37, 2) := by decide +kernel
theorem dX12_append_15 : decode cX12_append 15 = .ok (.iload 5, 2) := by decide +kernel
theorem dX12_append_17 : decode cX12_append 17 = .ok (.iadd, 1) := by decide +kernel
theorem dX12_append_18 : decode cX12_append 18 = .ok (.iload_n 3, 1) := by decide +kernel
theorem dX12_append_19 : decode cX12_append 19 = .ok (.iastore, 1) := by decide +kernel
theorem dX12_append_20 : decode cX12_append 20 = .ok (.aload_n 1, 1) := by decide +kernel
theorem dX12_append_21 : decode cX12_append 21 = .ok (.bipush 73, 2) := by decide +kernel
theorem dX12_append_23 : decode cX12_append 23 = .ok (.iload 5, 2) := by decide +kernel
theorem dX12_append_25 : decode cX12_append 25 = .ok (.iadd, 1) := by decide +kernel
theorem dX12_append_26 : decode cX12_append 26 = .ok (.iload 4, 2) := by decide +kernel
theorem dX12_append_28 : decode cX12_append 28 = .ok (.iastore, 1) := by decide +kernel
theorem dX12_append_29 : decode cX12_append 29 = .ok (.aload_n 1, 1) := by decide +kernel
theorem dX12_append_30 : decode cX12_append 30 = .ok (.iconst 0, 1) := by decide +kernel
theorem dX12_append_31 : decode cX12_append 31 = .ok (.dup2, 1) := by decide +kernel
theorem dX12_append_32 : decode cX12_append 32 = .ok (.iaload, 1) := by decide +kernel
theorem dX12_append_33 : decode cX12_append 33 = .ok (.iconst 1, 1) := by decide +kernel
theorem dX12_append_34 : decode cX12_append 34 = .ok (.iadd, 1) := by decide +kernel
theorem dX12_append_35 : decode cX12_append 35 = .ok (.iastore, 1) := by decide +kernel
theorem dX12_append_36 : decode cX12_append 36 = .ok (.return_, 1) := by decide +kernel
theorem dX12_drawIn_0 : decode cX12_drawIn 0 = .ok (.aload_n 0, 1) := by decide +kernel
theorem dX12_drawIn_1 : decode cX12_drawIn 1 = .ok (.aload_n 1, 1) := by decide +kernel
theorem dX12_drawIn_2 : decode cX12_drawIn 2 = .ok (.invokevirtual 176, 3) := by decide +kernel
theorem dX12_drawIn_5 : decode cX12_drawIn 5 = .ok (.bipush (-9), 2) := by decide +kernel
theorem dX12_drawIn_7 : decode cX12_drawIn 7 = .ok (.if_icmp .ne 32, 3) := by decide +kernel
theorem dX12_drawIn_10 : decode cX12_drawIn 10 = .ok (.aload_n 0, 1) := by decide +kernel
theorem dX12_drawIn_11 : decode cX12_drawIn 11 = .ok (.aload_n 1, 1) := by decide +kernel
theorem dX12_drawIn_12 : decode cX12_drawIn 12 = .ok (.invokevirtual 180, 3) := by decide +kernel
theorem dX12_drawIn_15 : decode cX12_drawIn 15 = .ok (.ifCond .eq 24, 3) := by decide +kernel
theorem dX12_drawIn_18 : decode cX12_drawIn 18 = .ok (.aload_n 0, 1) := by decide +kernel
theorem dX12_drawIn_19 : decode cX12_drawIn 19 = .ok (.aload_n 1, 1) := by decide +kernel
theorem dX12_drawIn_20 : decode cX12_drawIn 20 = .ok (.aload_n 0, 1) := by decide +kernel
theorem dX12_drawIn_21 : decode cX12_drawIn 21 = .ok (.getfield 154, 3) := by decide +kernel
theorem dX12_drawIn_24 : decode cX12_drawIn 24 = .ok (.aload_n 0, 1) := by decide +kernel
theorem dX12_drawIn_25 : decode cX12_drawIn 25 = .ok (.aload_n 1, 1) := by decide +kernel
theorem dX12_drawIn_26 : decode cX12_drawIn 26 = .ok (.invokevirtual 184, 3) := by decide +kernel
theorem dX12_drawIn_29 : decode cX12_drawIn 29 = .ok (.aload_n 0, 1) := by decide +kernel
theorem dX12_drawIn_30 : decode cX12_drawIn 30 = .ok (.getfield 157, 3) := by decide +kernel
theorem dX12_drawIn_33 : decode cX12_drawIn 33 = .ok (.invokevirtual 187, 3) := by decide +kernel
theorem dX12_drawIn_36 : decode cX12_drawIn 36 = .ok (.goto (-36), 3) := by decide +kernel
theorem dX12_drawIn_39 : decode cX12_drawIn 39 = .ok (.return_, 1) := by decide +kernel
theorem dX12_task_0 : decode cX12_task 0 = .ok (.aload_n 0, 1) := by decide +kernel
theorem dX12_task_1 : decode cX12_task 1 = .ok (.invokevirtual 112, 3) := by decide +kernel
theorem dX12_task_4 : decode cX12_task 4 = .ok (.bipush (-9), 2) := by decide +kernel
theorem dX12_task_6 : decode cX12_task 6 = .ok (.if_icmp .eq 6, 3) := by decide +kernel
theorem dX12_task_9 : decode cX12_task 9 = .ok (.bipush (-3), 2) := by decide +kernel
theorem dX12_task_11 : decode cX12_task 11 = .ok (.ireturn, 1) := by decide +kernel
theorem dX12_task_12 : decode cX12_task 12 = .ok (.aload_n 0, 1) := by decide +kernel
theorem dX12_task_13 : decode cX12_task 13 = .ok (.aload_n 0, 1) := by decide +kernel
theorem dX12_task_14 : decode cX12_task 14 = .ok (.getfield 78, 3) := by decide +kernel
theorem dX12_task_17 : decode cX12_task 17 = .ok (.putfield 65, 3) := by decide +kernel
theorem dX12_task_20 : decode cX12_task 20 = .ok (.aload_n 0, 1) := by decide +kernel
theorem dX12_task_21 : decode cX12_task 21 = .ok (.aload_n 0, 1) := by decide +kernel
theorem dX12_task_22 : decode cX12_task 22 = .ok (.getfield 88, 3) := by decide +kernel
theorem dX12_task_25 : decode cX12_task 25 = .ok (.putfield 145, 3) := by decide +kernel
theorem dX12_task_28 : decode cX12_task 28 = .ok (.iconst 0, 1) := by decide +kernel
theorem dX12_task_29 : decode cX12_task 29 = .ok (.istore_n 1, 1) := by decide +kernel
theorem dX12_task_30 : decode cX12_task 30 = .ok (.iload_n 1, 1) := by decide +kernel
theorem dX12_task_31 : decode cX12_task 31 = .ok (.aload_n 0, 1) := by decide +kernel
theorem dX12_task_32 : decode cX12_task 32 = .ok (.getfield 65, 3) := by decide +kernel
theorem dX12_task_35 : decode cX12_task 35 = .ok (.if_icmp .ge 21, 3) := by decide +kernel
theorem dX12_task_38 : decode cX12_task 38 = .ok (.aload_n 0, 1) := by decide +kernel
theorem dX12_task_39 : decode cX12_task 39 = .ok (.getfield 13, 3) := by decide +kernel
theorem dX12_task_42 : decode cX12_task 42 = .ok (.iload_n 1, 1) := by decide +kernel
theorem dX12_task_43 : decode cX12_task 43 = .ok (.aload_n 0, 1) := by decide +kernel
theorem dX12_task_44 : decode cX12_task 44 = .ok (.getfield 56, 3) := by decide +kernel
theorem dX12_task_47 : decode cX12_task 47 = .ok (.iload_n 1, 1) := by decide +kernel
theorem dX12_task_48 : decode cX12_task 48 = .ok (.iaload, 1) := by decide +kernel
theorem dX12_task_49 : decode cX12_task 49 = .ok (.iastore, 1) := by decide +kernel
theorem dX12_task_50 : decode cX12_task 50 = .ok (.iinc 1 1, 3) := by decide +kernel
theorem dX12_task_53 : decode cX12_task 53 = .ok (.goto (-23), 3) := by decide +kernel
theorem dX12_task_56 : decode cX12_task 56 = .ok (.iconst 0, 1) := by decide +kernel
theorem dX12_task_57 : decode cX12_task 57 = .ok (.istore_n 1, 1) := by decide +kernel
theorem dX12_task_58 : decode cX12_task 58 = .ok (.iload_n 1, 1) := by decide +kernel
theorem dX12_task_59 : decode cX12_task 59 = .ok (.aload_n 0, 1) := by decide +kernel
theorem dX12_task_60 : decode cX12_task 60 = .ok (.getfield 145, 3) := by decide +kernel
theorem dX12_task_63 : decode cX12_task 63 = .ok (.if_icmp .ge 66, 3) := by decide +kernel
theorem dX12_task_66 : decode cX12_task 66 = .ok (.aload_n 0, 1) := by decide +kernel
theorem dX12_task_67 : decode cX12_task 67 = .ok (.getfield 19, 3) := by decide +kernel
theorem dX12_task_70 : decode cX12_task 70 = .ok (.iload_n 1, 1) := by decide +kernel
theorem dX12_task_71 : decode cX12_task 71 = .ok (.aload_n 0, 1) := by decide +kernel
theorem dX12_task_72 : decode cX12_task 72 = .ok (.getfield 62, 3) := by decide +kernel
theorem dX12_task_75 : decode cX12_task 75 = .ok (.iload_n 1, 1) := by decide +kernel
theorem dX12_task_76 : decode cX12_task 76 = .ok (.iaload, 1) := by decide +kernel
theorem dX12_task_77 : decode cX12_task 77 = .ok (.iastore, 1) := by decide +kernel
theorem dX12_task_78 : decode cX12_task 78 = .ok (.iconst 0, 1) := by decide +kernel
theorem dX12_task_79 : decode cX12_task 79 = .ok (.istore_n 2, 1) := by decide +kernel
theorem dX12_task_80 : decode cX12_task 80 = .ok (.iload_n 2, 1) := by decide +kernel
theorem dX12_task_81 : decode cX12_task 81 = .ok (.iconst 4, 1) := by decide +kernel
theorem dX12_task_82 : decode cX12_task 82 = .ok (.if_icmp .ge 41, 3) := by decide +kernel
theorem dX12_task_85 : decode cX12_task 85 = .ok (.aload_n 0, 1) := by decide +kernel
theorem dX12_task_86 : decode cX12_task 86 = .ok (.getfield 16, 3) := by decide +kernel
theorem dX12_task_89 : decode cX12_task 89 = .ok (.iconst 4, 1) := by decide +kernel
theorem dX12_task_90 : decode cX12_task 90 = .ok (.iload_n 1, 1) := by decide +kernel
theorem dX12_task_91 : decode cX12_task 91 = .ok (.imul, 1) := by decide +kernel
theorem dX12_task_92 : decode cX12_task 92 = .ok (.iload_n 2, 1) := by decide +kernel
theorem dX12_task_93 : decode cX12_task 93 = .ok (.iadd, 1) := by decide +kernel
theorem dX12_task_94 : decode cX12_task 94 = .ok (.iload_n 2, 1) := by decide +kernel
theorem dX12_task_95 : decode cX12_task 95 = .ok (.aload_n 0, 1) := by decide +kernel
theorem dX12_task_96 : decode cX12_task 96 = .ok (.getfield 65, 3) := by decide +kernel
theorem dX12_task_99 : decode cX12_task 99 = .ok (.if_icmp .ge 16, 3) := by decide +kernel
theorem dX12_task_102 : decode cX12_task 102 = .ok (.aload_n 0, 1) := by decide +kernel
theorem dX12_task_103 : decode cX12_task 103 = .ok (.getfield 59, 3) := by decide +kernel
theorem dX12_task_106 : decode cX12_task 106 = .ok (.iconst 4, 1) := by decide +kernel
theorem dX12_task_107 : decode cX12_task 107 = .ok (.iload_n 1, 1) := by decide +kernel
theorem dX12_task_108 : decode cX12_task 108 = .ok (.imul, 1) := by decide +kernel
theorem dX12_task_109 : decode cX12_task 109 = .ok (.iload_n 2, 1) := by decide +kernel
theorem dX12_task_110 : decode cX12_task 110 = .ok (.iadd, 1) := by decide +kernel
theorem dX12_task_111 : decode cX12_task 111 = .ok (.iaload, 1) := by decide +kernel
theorem dX12_task_112 : decode cX12_task 112 = .ok (.goto 4, 3) := by decide +kernel
theorem dX12_task_115 : decode cX12_task 115 = .ok (.iconst 0, 1) := by decide +kernel
theorem dX12_task_116 : decode cX12_task 116 = .ok (.iastore, 1) := by decide +kernel
theorem dX12_task_117 : decode cX12_task 117 = .ok (.iinc 2 1, 3) := by decide +kernel
theorem dX12_task_120 : decode cX12_task 120 = .ok (.goto (-40), 3) := by decide +kernel
theorem dX12_task_123 : decode cX12_task 123 = .ok (.iinc 1 1, 3) := by decide +kernel
theorem dX12_task_126 : decode cX12_task 126 = .ok (.goto (-68), 3) := by decide +kernel
theorem dX12_task_129 : decode cX12_task 129 = .ok (.iconst 0, 1) := by decide +kernel
theorem dX12_task_130 : decode cX12_task 130 = .ok (.istore_n 1, 1) := by decide +kernel
theorem dX12_task_131 : decode cX12_task 131 = .ok (.iload_n 1, 1) := by decide +kernel
theorem dX12_task_132 : decode cX12_task 132 = .ok (.sipush 471, 3) := by decide +kernel
theorem dX12_task_135 : decode cX12_task 135 = .ok (.if_icmp .ge 16, 3) := by decide +kernel
theorem dX12_task_138 : decode cX12_task 138 = .ok (.aload_n 0, 1) := by decide +kernel
theorem dX12_task_139 : decode cX12_task 139 = .ok (.getfield 22, 3) := by decide +kernel
theorem dX12_task_142 : decode cX12_task 142 = .ok (.iload_n 1, 1) := by decide +kernel
theorem dX12_task_143 : decode cX12_task 143 = .ok (.iconst 0, 1) := by decide +kernel
theorem dX12_task_144 : decode cX12_task 144 = .ok (.iastore, 1) := by decide +kernel
theorem dX12_task_145 : decode cX12_task 145 = .ok (.iinc 1 1, 3) := by decide +kernel
theorem dX12_task_148 : decode cX12_task 148 = .ok (.goto (-17), 3) := by decide +kernel
theorem dX12_task_151 : decode cX12_task 151 = .ok (.aload_n 0, 1) := by decide +kernel
theorem dX12_task_152 : decode cX12_task 152 = .ok (.aload_n 0, 1) := by decide +kernel
theorem dX12_task_153 : decode cX12_task 153 = .ok (.getfield 22, 3) := by decide +kernel
theorem dX12_task_156 : decode cX12_task 156 = .ok (.invokevirtual 191, 3) := by decide +kernel
theorem dX12_task_159 : decode cX12_task 159 = .ok (.aload_n 0, 1) := by decide +kernel
theorem dX12_task_160 : decode cX12_task 160 = .ok (.iconst 0, 1) := by decide +kernel
theorem dX12_task_161 : decode cX12_task 161 = .ok (.putfield 195, 3) := by decide +kernel
theorem dX12_task_164 : decode cX12_task 164 = .ok (.aload_n 0, 1) := by decide +kernel
theorem dX12_task_165 : decode cX12_task 165 = .ok (.getfield 34, 3) := by decide +kernel
theorem dX12_task_168 : decode cX12_task 168 = .ok (.iconst 0, 1) := by decide +kernel
theorem dX12_task_169 : decode cX12_task 169 = .ok (.iconst 0, 1) := by decide +kernel
theorem dX12_task_170 : decode cX12_task 170 = .ok (.bastore, 1) := by decide +kernel
theorem dX12_task_171 : decode cX12_task 171 = .ok (.aload_n 0, 1) := by decide +kernel
theorem dX12_task_172 : decode cX12_task 172 = .ok (.getfield 34, 3) := by decide +kernel
theorem dX12_task_175 : decode cX12_task 175 = .ok (.iconst 1, 1) := by decide +kernel
theorem dX12_task_176 : decode cX12_task 176 = .ok (.iconst 0, 1) := by decide +kernel
theorem dX12_task_177 : decode cX12_task 177 = .ok (.bastore, 1) := by decide +kernel
theorem dX12_task_178 : decode cX12_task 178 = .ok (.aload_n 0, 1) := by decide +kernel
theorem dX12_task_179 : decode cX12_task 179 = .ok (.getfield 145, 3) := by decide +kernel
theorem dX12_task_182 : decode cX12_task 182 = .ok (.ireturn, 1) := by decide +kernel
theorem dX12_lastOf_0 : decode cX12_lastOf 0 = .ok (.bipush (-9), 2) := by decide +kernel
theorem dX12_lastOf_2 : decode cX12_lastOf 2 = .ok (.istore 5, 2) := by decide +kernel
theorem dX12_lastOf_4 : decode cX12_lastOf 4 = .ok (.iconst 0, 1) := by decide +kernel
theorem dX12_lastOf_5 : decode cX12_lastOf 5 = .ok (.istore 6, 2) := by decide +kernel
theorem dX12_lastOf_7 : decode cX12_lastOf 7 = .ok (.iload 6, 2) := by decide +kernel
theorem dX12_lastOf_9 : decode cX12_lastOf 9 = .ok (.iload 4, 2) := by decide +kernel
theorem dX12_lastOf_11 : decode cX12_lastOf 11 = .ok (.if_icmp .ge 36, 3) := by decide +kernel
theorem dX12_lastOf_14 : decode cX12_lastOf 14 = .ok (.aload_n 1, 1) := by decide +kernel
theorem dX12_lastOf_15 : decode cX12_lastOf 15 = .ok (.iconst 1, 1) := by decide +kernel
theorem dX12_lastOf_16 : decode cX12_lastOf 16 = .ok (.iload 6, 2) := by decide +kernel
theorem dX12_lastOf_18 : decode cX12_lastOf 18 = .ok (.iadd, 1) := by decide +kernel
theorem dX12_lastOf_19 : decode cX12_lastOf 19 = .ok (.iaload, 1) := by decide +kernel
theorem dX12_lastOf_20 : decode cX12_lastOf 20 = .ok (.bipush 10, 2) := by decide +kernel
theorem dX12_lastOf_22 : decode cX12_lastOf 22 = .ok (.idiv, 1) := by decide +kernel
theorem dX12_lastOf_23 : decode cX12_lastOf 23 = .ok (.bipush 10, 2) := by decide +kernel
theorem dX12_lastOf_25 : decode cX12_lastOf 25 = .ok (.iload_n 2, 1) := by decide +kernel
theorem dX12_lastOf_26 : decode cX12_lastOf 26 = .ok (.imul, 1) := by decide +kernel
theorem dX12_lastOf_27 : decode cX12_lastOf 27 = .ok (.iload_n 3, 1) := by decide +kernel
theorem dX12_lastOf_28 : decode cX12_lastOf 28 = .ok (.iadd, 1) := by decide +kernel
theorem dX12_lastOf_29 : decode cX12_lastOf 29 = .ok (.if_icmp .ne 8, 3) := by decide +kernel
theorem dX12_lastOf_32 : decode cX12_lastOf 32 = .ok (.iload 6, 2) := by decide +kernel
theorem dX12_lastOf_34 : decode cX12_lastOf 34 = .ok (.goto 5, 3) := by decide +kernel
theorem dX12_lastOf_37 : decode cX12_lastOf 37 = .ok (.iload 5, 2) := by decide +kernel
theorem dX12_lastOf_39 : decode cX12_lastOf 39 = .ok (.istore 5, 2) := by decide +kernel
theorem dX12_lastOf_41 : decode cX12_lastOf 41 = .ok (.iinc 6 1, 3) := by decide +kernel
theorem dX12_lastOf_44 : decode cX12_lastOf 44 = .ok (.goto (-37), 3) := by decide +kernel
theorem dX12_lastOf_47 : decode cX12_lastOf 47 = .ok (.iload 5, 2) := by decide +kernel
theorem dX12_lastOf_49 : decode cX12_lastOf 49 = .ok (.ireturn, 1) := by decide +kernel
theorem dX12_comes_0 : decode cX12_comes 0 = .ok (.iload_n 2, 1) := by decide +kernel
theorem dX12_comes_1 : decode cX12_comes 1 = .ok (.bipush (-9), 2) := by decide +kernel
theorem dX12_comes_3 : decode cX12_comes 3 = .ok (.if_icmp .eq 63, 3) := by decide +kernel
theorem dX12_comes_6 : decode cX12_comes 6 = .ok (.aload_n 1, 1) := by decide +kernel
theorem dX12_comes_7 : decode cX12_comes 7 = .ok (.bipush 37, 2) := by decide +kernel
theorem dX12_comes_9 : decode cX12_comes 9 = .ok (.iload_n 2, 1) := by decide +kernel
theorem dX12_comes_10 : decode cX12_comes 10 = .ok (.iadd, 1) := by decide +kernel
theorem dX12_comes_11 : decode cX12_comes 11 = .ok (.iaload, 1) := by decide +kernel
theorem dX12_comes_12 : decode cX12_comes 12 = .ok (.ifCond .le 54, 3) := by decide +kernel
theorem dX12_comes_15 : decode cX12_comes 15 = .ok (.aload_n 1, 1) := by decide +kernel
theorem dX12_comes_16 : decode cX12_comes 16 = .ok (.iconst 1, 1) := by decide +kernel
theorem dX12_comes_17 : decode cX12_comes 17 = .ok (.iload_n 2, 1) := by decide +kernel
theorem dX12_comes_18 : decode cX12_comes 18 = .ok (.iadd, 1) := by decide +kernel
theorem dX12_comes_19 : decode cX12_comes 19 = .ok (.iaload, 1) := by decide +kernel
theorem dX12_comes_20 : decode cX12_comes 20 = .ok (.istore_n 3, 1) := by decide +kernel
theorem dX12_comes_21 : decode cX12_comes 21 = .ok (.iconst 2, 1) := by decide +kernel
theorem dX12_comes_22 : decode cX12_comes 22 = .ok (.iload_n 3, 1) := by decide +kernel
theorem dX12_comes_23 : decode cX12_comes 23 = .ok (.bipush 100, 2) := by decide +kernel
theorem dX12_comes_25 : decode cX12_comes 25 = .ok (.idiv, 1) := by decide +kernel
theorem dX12_comes_26 : decode cX12_comes 26 = .ok (.imul, 1) := by decide +kernel
theorem dX12_comes_27 : decode cX12_comes 27 = .ok (.iload_n 3, 1) := by decide +kernel
theorem dX12_comes_28 : decode cX12_comes 28 = .ok (.bipush 10, 2) := by decide +kernel
theorem dX12_comes_30 : decode cX12_comes 30 = .ok (.idiv, 1) := by decide +kernel
theorem dX12_comes_31 : decode cX12_comes 31 = .ok (.bipush 10, 2) := by decide +kernel
theorem dX12_comes_33 : decode cX12_comes 33 = .ok (.irem, 1) := by decide +kernel
theorem dX12_comes_34 : decode cX12_comes 34 = .ok (.iadd, 1) := by decide +kernel
theorem dX12_comes_35 : decode cX12_comes 35 = .ok (.istore 4, 2) := by decide +kernel
theorem dX12_comes_37 : decode cX12_comes 37 = .ok (.aload_n 0, 1) := by decide +kernel
theorem dX12_comes_38 : decode cX12_comes 38 = .ok (.getfield 44, 3) := by decide +kernel
theorem dX12_comes_41 : decode cX12_comes 41 = .ok (.iload 4, 2) := by decide +kernel
theorem dX12_comes_43 : decode cX12_comes 43 = .ok (.iload_n 2, 1) := by decide +kernel
theorem dX12_comes_44 : decode cX12_comes 44 = .ok (.aload_n 0, 1) := by decide +kernel
theorem dX12_comes_45 : decode cX12_comes 45 = .ok (.getfield 44, 3) := by decide +kernel
theorem dX12_comes_48 : decode cX12_comes 48 = .ok (.iload 4, 2) := by decide +kernel
theorem dX12_comes_50 : decode cX12_comes 50 = .ok (.iaload, 1) := by decide +kernel
theorem dX12_comes_51 : decode cX12_comes 51 = .ok (.if_icmp .le 7, 3) := by decide +kernel
theorem dX12_comes_54 : decode cX12_comes 54 = .ok (.iload_n 2, 1) := by decide +kernel
theorem dX12_comes_55 : decode cX12_comes 55 = .ok (.goto 10, 3) := by decide +kernel
theorem dX12_comes_58 : decode cX12_comes 58 = .ok (.aload_n 0, 1) := by decide +kernel
theorem dX12_comes_59 : decode cX12_comes 59 = .ok (.getfield 44, 3) := by decide +kernel
theorem dX12_comes_62 : decode cX12_comes 62 = .ok (.iload 4, 2) := by decide +kernel
theorem dX12_comes_64 : decode cX12_comes 64 = .ok (.iaload, 1) := by decide +kernel
theorem dX12_comes_65 : decode cX12_comes 65 = .ok (.iastore, 1) := by decide +kernel
theorem dX12_comes_66 : decode cX12_comes 66 = .ok (.return_, 1) := by decide +kernel
theorem dX12_whyBy_0 : decode cX12_whyBy 0 = .ok (.iconst 0, 1) := by decide +kernel
theorem dX12_whyBy_1 : decode cX12_whyBy 1 = .ok (.istore 6, 2) := by decide +kernel
theorem dX12_whyBy_3 : decode cX12_whyBy 3 = .ok (.iload_n 2, 1) := by decide +kernel
theorem dX12_whyBy_4 : decode cX12_whyBy 4 = .ok (.bipush 10, 2) := by decide +kernel
theorem dX12_whyBy_6 : decode cX12_whyBy 6 = .ok (.if_icmp .ge 114, 3) := by decide +kernel
theorem dX12_whyBy_9 : decode cX12_whyBy 9 = .ok (.iconst 0, 1) := by decide +kernel
theorem dX12_whyBy_10 : decode cX12_whyBy 10 = .ok (.istore 7, 2) := by decide +kernel
theorem dX12_whyBy_12 : decode cX12_whyBy 12 = .ok (.iload 7, 2) := by decide +kernel
theorem dX12_whyBy_14 : decode cX12_whyBy 14 = .ok (.aload_n 0, 1) := by decide +kernel
theorem dX12_whyBy_15 : decode cX12_whyBy 15 = .ok (.getfield 65, 3) := by decide +kernel
theorem dX12_whyBy_18 : decode cX12_whyBy 18 = .ok (.if_icmp .ge 99, 3) := by decide +kernel
theorem dX12_whyBy_21 : decode cX12_whyBy 21 = .ok (.aload_n 0, 1) := by decide +kernel
theorem dX12_whyBy_22 : decode cX12_whyBy 22 = .ok (.iload_n 2, 1) := by decide +kernel
theorem dX12_whyBy_23 : decode cX12_whyBy 23 = .ok (.iload 7, 2) := by decide +kernel
theorem dX12_whyBy_25 : decode cX12_whyBy 25 = .ok (.invokevirtual 134, 3) := by decide +kernel
theorem dX12_whyBy_28 : decode cX12_whyBy 28 = .ok (.istore 8, 2) := by decide +kernel
theorem dX12_whyBy_30 : decode cX12_whyBy 30 = .ok (.iload 8, 2) := by decide +kernel
theorem dX12_whyBy_32 : decode cX12_whyBy 32 = .ok (.ifCond .eq 20, 3) := by decide +kernel
theorem dX12_whyBy_35 : decode cX12_whyBy 35 = .ok (.iload 4, 2) := by decide +kernel
theorem dX12_whyBy_37 : decode cX12_whyBy 37 = .ok (.bipush (-9), 2) := by decide +kernel
theorem dX12_whyBy_39 : decode cX12_whyBy 39 = .ok (.if_icmp .eq 18, 3) := by decide +kernel
theorem dX12_whyBy_42 : decode cX12_whyBy 42 = .ok (.iload 7, 2) := by decide +kernel
theorem dX12_whyBy_44 : decode cX12_whyBy 44 = .ok (.iload 4, 2) := by decide +kernel
theorem dX12_whyBy_46 : decode cX12_whyBy 46 = .ok (.bipush 100, 2) := by decide +kernel
theorem dX12_whyBy_48 : decode cX12_whyBy 48 = .ok (.idiv, 1) := by decide +kernel
theorem dX12_whyBy_49 : decode cX12_whyBy 49 = .ok (.if_icmp .ne 8, 3) := by decide +kernel
theorem dX12_whyBy_52 : decode cX12_whyBy 52 = .ok (.bipush (-9), 2) := by decide +kernel
theorem dX12_whyBy_54 : decode cX12_whyBy 54 = .ok (.goto 21, 3) := by decide +kernel
theorem dX12_whyBy_57 : decode cX12_whyBy 57 = .ok (.aload_n 0, 1) := by decide +kernel
theorem dX12_whyBy_58 : decode cX12_whyBy 58 = .ok (.aload_n 1, 1) := by decide +kernel
theorem dX12_whyBy_59 : decode cX12_whyBy 59 = .ok (.iload 7, 2) := by decide +kernel
theorem dX12_whyBy_61 : decode cX12_whyBy 61 = .ok (.iload 8, 2) := by decide +kernel
theorem dX12_whyBy_63 : decode cX12_whyBy 63 = .ok (.ifCond .le 7, 3) := by decide +kernel
theorem dX12_whyBy_66 : decode cX12_whyBy 66 = .ok (.iconst 0, 1) := by decide +kernel
theorem dX12_whyBy_67 : decode cX12_whyBy 67 = .ok (.goto 4, 3) := by decide +kernel
theorem dX12_whyBy_70 : decode cX12_whyBy 70 = .ok (.iconst 1, 1) := by decide +kernel
theorem dX12_whyBy_71 : decode cX12_whyBy 71 = .ok (.iload_n 3, 1) := by decide +kernel
theorem dX12_whyBy_72 : decode cX12_whyBy 72 = .ok (.invokevirtual 198, 3) := by decide +kernel
theorem dX12_whyBy_75 : decode cX12_whyBy 75 = .ok (.istore 9, 2) := by decide +kernel
theorem dX12_whyBy_77 : decode cX12_whyBy 77 = .ok (.iload 6, 2) := by decide +kernel
theorem dX12_whyBy_79 : decode cX12_whyBy 79 = .ok (.iload 9, 2) := by decide +kernel
theorem dX12_whyBy_81 : decode cX12_whyBy 81 = .ok (.bipush (-9), 2) := by decide +kernel
theorem dX12_whyBy_83 : decode cX12_whyBy 83 = .ok (.if_icmp .eq 7, 3) := by decide +kernel
theorem dX12_whyBy_86 : decode cX12_whyBy 86 = .ok (.iconst 1, 1) := by decide +kernel
theorem dX12_whyBy_87 : decode cX12_whyBy 87 = .ok (.goto 4, 3) := by decide +kernel
theorem dX12_whyBy_90 : decode cX12_whyBy 90 = .ok (.iconst 0, 1) := by decide +kernel
theorem dX12_whyBy_91 : decode cX12_whyBy 91 = .ok (.iadd, 1) := by decide +kernel
theorem dX12_whyBy_92 : decode cX12_whyBy 92 = .ok (.istore 6, 2) := by decide +kernel
theorem dX12_whyBy_94 : decode cX12_whyBy 94 = .ok (.aload_n 0, 1) := by decide +kernel
theorem dX12_whyBy_95 : decode cX12_whyBy 95 = .ok (.aload_n 1, 1) := by decide +kernel
theorem dX12_whyBy_96 : decode cX12_whyBy 96 = .ok (.iload 5, 2) := by decide +kernel
theorem dX12_whyBy_98 : decode cX12_whyBy 98 = .ok (.ifCond .eq 8, 3) := by decide +kernel
theorem dX12_whyBy_101 : decode cX12_whyBy 101 = .ok (.iload 9, 2) := by decide +kernel
theorem dX12_whyBy_103 : decode cX12_whyBy 103 = .ok (.goto 5, 3) := by decide +kernel
theorem dX12_whyBy_106 : decode cX12_whyBy 106 = .ok (.bipush (-9), 2) := by decide +kernel
theorem dX12_whyBy_108 : decode cX12_whyBy 108 = .ok (.invokevirtual 202, 3) := by decide +kernel
theorem dX12_whyBy_111 : decode cX12_whyBy 111 = .ok (.iinc 7 1, 3) := by decide +kernel
theorem dX12_whyBy_114 : decode cX12_whyBy 114 = .ok (.goto (-102), 3) := by decide +kernel
theorem dX12_whyBy_117 : decode cX12_whyBy 117 = .ok (.iload 6, 2) := by decide +kernel
theorem dX12_whyBy_119 : decode cX12_whyBy 119 = .ok (.ireturn, 1) := by decide +kernel
theorem dX12_whyBy_120 : decode cX12_whyBy 120 = .ok (.iload_n 2, 1) := by decide +kernel
theorem dX12_whyBy_121 : decode cX12_whyBy 121 = .ok (.bipush 10, 2) := by decide +kernel
theorem dX12_whyBy_123 : decode cX12_whyBy 123 = .ok (.isub, 1) := by decide +kernel
theorem dX12_whyBy_124 : decode cX12_whyBy 124 = .ok (.istore 7, 2) := by decide +kernel
theorem dX12_whyBy_126 : decode cX12_whyBy 126 = .ok (.iconst 0, 1) := by decide +kernel
theorem dX12_whyBy_127 : decode cX12_whyBy 127 = .ok (.istore 8, 2) := by decide +kernel
theorem dX12_whyBy_129 : decode cX12_whyBy 129 = .ok (.iload 8, 2) := by decide +kernel
theorem dX12_whyBy_131 : decode cX12_whyBy 131 = .ok (.aload_n 1, 1) := by decide +kernel
theorem dX12_whyBy_132 : decode cX12_whyBy 132 = .ok (.bipush 110, 2) := by decide +kernel
theorem dX12_whyBy_134 : decode cX12_whyBy 134 = .ok (.iload 7, 2) := by decide +kernel
theorem dX12_whyBy_136 : decode cX12_whyBy 136 = .ok (.iadd, 1) := by decide +kernel
theorem dX12_whyBy_137 : decode cX12_whyBy 137 = .ok (.iaload, 1) := by decide +kernel
theorem dX12_whyBy_138 : decode cX12_whyBy 138 = .ok (.if_icmp .ge 97, 3) := by decide +kernel
theorem dX12_whyBy_141 : decode cX12_whyBy 141 = .ok (.aload_n 0, 1) := by decide +kernel
theorem dX12_whyBy_142 : decode cX12_whyBy 142 = .ok (.aload_n 1, 1) := by decide +kernel
theorem dX12_whyBy_143 : decode cX12_whyBy 143 = .ok (.iload 7, 2) := by decide +kernel
theorem dX12_whyBy_145 : decode cX12_whyBy 145 = .ok (.iload 8, 2) := by decide +kernel
theorem dX12_whyBy_147 : decode cX12_whyBy 147 = .ok (.invokevirtual 138, 3) := by decide +kernel
theorem dX12_whyBy_150 : decode cX12_whyBy 150 = .ok (.istore 9, 2) := by decide +kernel
theorem dX12_whyBy_152 : decode cX12_whyBy 152 = .ok (.iload 4, 2) := by decide +kernel
theorem dX12_whyBy_154 : decode cX12_whyBy 154 = .ok (.bipush (-9), 2) := by decide +kernel
theorem dX12_whyBy_156 : decode cX12_whyBy 156 = .ok (.if_icmp .eq 18, 3) := by decide +kernel
theorem dX12_whyBy_159 : decode cX12_whyBy 159 = .ok (.iload 9, 2) := by decide +kernel
theorem dX12_whyBy_161 : decode cX12_whyBy 161 = .ok (.invokestatic 166, 3) := by decide +kernel
theorem dX12_whyBy_164 : decode cX12_whyBy 164 = .ok (.iload 4, 2) := by decide +kernel
theorem dX12_whyBy_166 : decode cX12_whyBy 166 = .ok (.if_icmp .ne 8, 3) := by decide +kernel
theorem dX12_whyBy_169 : decode cX12_whyBy 169 = .ok (.bipush (-9), 2) := by decide +kernel
theorem dX12_whyBy_171 : decode cX12_whyBy 171 = .ok (.goto 22, 3) := by decide +kernel
theorem dX12_whyBy_174 : decode cX12_whyBy 174 = .ok (.aload_n 0, 1) := by decide +kernel
theorem dX12_whyBy_175 : decode cX12_whyBy 175 = .ok (.aload_n 1, 1) := by decide +kernel
theorem dX12_whyBy_176 : decode cX12_whyBy 176 = .ok (.iload 9, 2) := by decide +kernel
theorem dX12_whyBy_178 : decode cX12_whyBy 178 = .ok (.bipush 100, 2) := by decide +kernel
theorem dX12_whyBy_180 : decode cX12_whyBy 180 = .ok (.idiv, 1) := by decide +kernel
theorem dX12_whyBy_181 : decode cX12_whyBy 181 = .ok (.iload 9, 2) := by decide +kernel
theorem dX12_whyBy_183 : decode cX12_whyBy 183 = .ok (.bipush 10, 2) := by decide +kernel
theorem dX12_whyBy_185 : decode cX12_whyBy 185 = .ok (.idiv, 1) := by decide +kernel
theorem dX12_whyBy_186 : decode cX12_whyBy 186 = .ok (.bipush 10, 2) := by decide +kernel
theorem dX12_whyBy_188 : decode cX12_whyBy 188 = .ok (.irem, 1) := by decide +kernel
theorem dX12_whyBy_189 : decode cX12_whyBy 189 = .ok (.iload_n 3, 1) := by decide +kernel
theorem dX12_whyBy_190 : decode cX12_whyBy 190 = .ok (.invokevirtual 198, 3) := by decide +kernel
theorem dX12_whyBy_193 : decode cX12_whyBy 193 = .ok (.istore 10, 2) := by decide +kernel
theorem dX12_whyBy_195 : decode cX12_whyBy 195 = .ok (.iload 6, 2) := by decide +kernel
theorem dX12_whyBy_197 : decode cX12_whyBy 197 = .ok (.iload 10, 2) := by decide +kernel
theorem dX12_whyBy_199 : decode cX12_whyBy 199 = .ok (.bipush (-9), 2) := by decide +kernel
theorem dX12_whyBy_201 : decode cX12_whyBy 201 = .ok (.if_icmp .eq 7, 3) := by decide +kernel
theorem dX12_whyBy_204 : decode cX12_whyBy 204 = .ok (.iconst 1, 1) := by decide +kernel
theorem dX12_whyBy_205 : decode cX12_whyBy 205 = .ok (.goto 4, 3) := by decide +kernel
theorem dX12_whyBy_208 : decode cX12_whyBy 208 = .ok (.iconst 0, 1) := by decide +kernel
theorem dX12_whyBy_209 : decode cX12_whyBy 209 = .ok (.iadd, 1) := by decide +kernel
theorem dX12_whyBy_210 : decode cX12_whyBy 210 = .ok (.istore 6, 2) := by decide +kernel
theorem dX12_whyBy_212 : decode cX12_whyBy 212 = .ok (.aload_n 0, 1) := by decide +kernel
theorem dX12_whyBy_213 : decode cX12_whyBy 213 = .ok (.aload_n 1, 1) := by decide +kernel
theorem dX12_whyBy_214 : decode cX12_whyBy 214 = .ok (.iload 5, 2) := by decide +kernel
theorem dX12_whyBy_216 : decode cX12_whyBy 216 = .ok (.ifCond .eq 8, 3) := by decide +kernel
theorem dX12_whyBy_219 : decode cX12_whyBy 219 = .ok (.iload 10, 2) := by decide +kernel
theorem dX12_whyBy_221 : decode cX12_whyBy 221 = .ok (.goto 5, 3) := by decide +kernel
theorem dX12_whyBy_224 : decode cX12_whyBy 224 = .ok (.bipush (-9), 2) := by decide +kernel
theorem dX12_whyBy_226 : decode cX12_whyBy 226 = .ok (.invokevirtual 202, 3) := by decide +kernel
theorem dX12_whyBy_229 : decode cX12_whyBy 229 = .ok (.iinc 8 1, 3) := by decide +kernel
theorem dX12_whyBy_232 : decode cX12_whyBy 232 = .ok (.goto (-103), 3) := by decide +kernel
theorem dX12_whyBy_235 : decode cX12_whyBy 235 = .ok (.iload 6, 2) := by decide +kernel
theorem dX12_whyBy_237 : decode cX12_whyBy 237 = .ok (.ireturn, 1) := by decide +kernel
theorem dX12_whyOf_0 : decode cX12_whyOf 0 = .ok (.aload_n 1, 1) := by decide +kernel
theorem dX12_whyOf_1 : decode cX12_whyOf 1 = .ok (.bipush 73, 2) := by decide +kernel
theorem dX12_whyOf_3 : decode cX12_whyOf 3 = .ok (.iload_n 2, 1) := by decide +kernel
theorem dX12_whyOf_4 : decode cX12_whyOf 4 = .ok (.iadd, 1) := by decide +kernel
theorem dX12_whyOf_5 : decode cX12_whyOf 5 = .ok (.iaload, 1) := by decide +kernel
theorem dX12_whyOf_6 : decode cX12_whyOf 6 = .ok (.ifCond .ge 7, 3) := by decide +kernel
theorem dX12_whyOf_9 : decode cX12_whyOf 9 = .ok (.iconst 0, 1) := by decide +kernel
theorem dX12_whyOf_10 : decode cX12_whyOf 10 = .ok (.goto 21, 3) := by decide +kernel
theorem dX12_whyOf_13 : decode cX12_whyOf 13 = .ok (.aload_n 0, 1) := by decide +kernel
theorem dX12_whyOf_14 : decode cX12_whyOf 14 = .ok (.aload_n 1, 1) := by decide +kernel
theorem dX12_whyOf_15 : decode cX12_whyOf 15 = .ok (.aload_n 1, 1) := by decide +kernel
theorem dX12_whyOf_16 : decode cX12_whyOf 16 = .ok (.bipush 73, 2) := by decide +kernel
theorem dX12_whyOf_18 : decode cX12_whyOf 18 = .ok (.iload_n 2, 1) := by decide +kernel
theorem dX12_whyOf_19 : decode cX12_whyOf 19 = .ok (.iadd, 1) := by decide +kernel
theorem dX12_whyOf_20 : decode cX12_whyOf 20 = .ok (.iaload, 1) := by decide +kernel
theorem dX12_whyOf_21 : decode cX12_whyOf 21 = .ok (.iload_n 2, 1) := by decide +kernel
theorem dX12_whyOf_22 : decode cX12_whyOf 22 = .ok (.aload_n 1, 1) := by decide +kernel
theorem dX12_whyOf_23 : decode cX12_whyOf 23 = .ok (.iconst 1, 1) := by decide +kernel
theorem dX12_whyOf_24 : decode cX12_whyOf 24 = .ok (.iload_n 2, 1) := by decide +kernel
theorem dX12_whyOf_25 : decode cX12_whyOf 25 = .ok (.iadd, 1) := by decide +kernel
theorem dX12_whyOf_26 : decode cX12_whyOf 26 = .ok (.iaload, 1) := by decide +kernel
theorem dX12_whyOf_27 : decode cX12_whyOf 27 = .ok (.iload_n 3, 1) := by decide +kernel
theorem dX12_whyOf_28 : decode cX12_whyOf 28 = .ok (.invokevirtual 206, 3) := by decide +kernel
theorem dX12_whyOf_31 : decode cX12_whyOf 31 = .ok (.ireturn, 1) := by decide +kernel
theorem dX12_greatest_0 : decode cX12_greatest 0 = .ok (.iconst 0, 1) := by decide +kernel
theorem dX12_greatest_1 : decode cX12_greatest 1 = .ok (.istore_n 3, 1) := by decide +kernel
theorem dX12_greatest_2 : decode cX12_greatest 2 = .ok (.iconst 0, 1) := by decide +kernel
theorem dX12_greatest_3 : decode cX12_greatest 3 = .ok (.istore 4, 2) := by decide +kernel
theorem dX12_greatest_5 : decode cX12_greatest 5 = .ok (.iload 4, 2) := by decide +kernel
theorem dX12_greatest_7 : decode cX12_greatest 7 = .ok (.bipush 8, 2) := by decide +kernel
theorem dX12_greatest_9 : decode cX12_greatest 9 = .ok (.if_icmp .ge 63, 3) := by decide +kernel
theorem dX12_greatest_12 : decode cX12_greatest 12 = .ok (.aload_n 0, 1) := by decide +kernel
theorem dX12_greatest_13 : decode cX12_greatest 13 = .ok (.getfield 44, 3) := by decide +kernel
theorem dX12_greatest_16 : decode cX12_greatest 16 = .ok (.iload 4, 2) := by decide +kernel
theorem dX12_greatest_18 : decode cX12_greatest 18 = .ok (.iaload, 1) := by decide +kernel
theorem dX12_greatest_19 : decode cX12_greatest 19 = .ok (.ifCond .lt 45, 3) := by decide +kernel
theorem dX12_greatest_22 : decode cX12_greatest 22 = .ok (.aload_n 0, 1) := by decide +kernel
theorem dX12_greatest_23 : decode cX12_greatest 23 = .ok (.getfield 44, 3) := by decide +kernel
theorem dX12_greatest_26 : decode cX12_greatest 26 = .ok (.iload 4, 2) := by decide +kernel
theorem dX12_greatest_28 : decode cX12_greatest 28 = .ok (.iaload, 1) := by decide +kernel
theorem dX12_greatest_29 : decode cX12_greatest 29 = .ok (.iload_n 2, 1) := by decide +kernel
theorem dX12_greatest_30 : decode cX12_greatest 30 = .ok (.if_icmp .eq 34, 3) := by decide +kernel
theorem dX12_greatest_33 : decode cX12_greatest 33 = .ok (.aload_n 1, 1) := by decide +kernel
theorem dX12_greatest_34 : decode cX12_greatest 34 = .ok (.bipush 37, 2) := by decide +kernel
theorem dX12_greatest_36 : decode cX12_greatest 36 = .ok (.aload_n 0, 1) := by decide +kernel
theorem dX12_greatest_37 : decode cX12_greatest 37 = .ok (.getfield 44, 3) := by decide +kernel
theorem dX12_greatest_40 : decode cX12_greatest 40 = .ok (.iload 4, 2) := by decide +kernel
theorem dX12_greatest_42 : decode cX12_greatest 42 = .ok (.iaload, 1) := by decide +kernel
theorem dX12_greatest_43 : decode cX12_greatest 43 = .ok (.iadd, 1) := by decide +kernel
theorem dX12_greatest_44 : decode cX12_greatest 44 = .ok (.iaload, 1) := by decide +kernel
theorem dX12_greatest_45 : decode cX12_greatest 45 = .ok (.iload_n 3, 1) := by decide +kernel
theorem dX12_greatest_46 : decode cX12_greatest 46 = .ok (.if_icmp .le 18, 3) := by decide +kernel
theorem dX12_greatest_49 : decode cX12_greatest 49 = .ok (.aload_n 1, 1) := by decide +kernel
theorem dX12_greatest_50 : decode cX12_greatest 50 = .ok (.bipush 37, 2) := by decide +kernel
theorem dX12_greatest_52 : decode cX12_greatest 52 = .ok (.aload_n 0, 1) := by decide +kernel
theorem dX12_greatest_53 : decode cX12_greatest 53 = .ok (.getfield 44, 3) := by decide +kernel
theorem dX12_greatest_56 : decode cX12_greatest 56 = .ok (.iload 4, 2) := by decide +kernel
theorem dX12_greatest_58 : decode cX12_greatest 58 = .ok (.iaload, 1) := by decide +kernel
theorem dX12_greatest_59 : decode cX12_greatest 59 = .ok (.iadd, 1) := by decide +kernel
theorem dX12_greatest_60 : decode cX12_greatest 60 = .ok (.iaload, 1) := by decide +kernel
theorem dX12_greatest_61 : decode cX12_greatest 61 = .ok (.goto 4, 3) := by decide +kernel
theorem dX12_greatest_64 : decode cX12_greatest 64 = .ok (.iload_n 3, 1) := by decide +kernel
theorem dX12_greatest_65 : decode cX12_greatest 65 = .ok (.istore_n 3, 1) := by decide +kernel
theorem dX12_greatest_66 : decode cX12_greatest 66 = .ok (.iinc 4 1, 3) := by decide +kernel
theorem dX12_greatest_69 : decode cX12_greatest 69 = .ok (.goto (-64), 3) := by decide +kernel
theorem dX12_greatest_72 : decode cX12_greatest 72 = .ok (.iload_n 3, 1) := by decide +kernel
theorem dX12_greatest_73 : decode cX12_greatest 73 = .ok (.ireturn, 1) := by decide +kernel
theorem dX12_manyOf_0 : decode cX12_manyOf 0 = .ok (.iconst 0, 1) := by decide +kernel
theorem dX12_manyOf_1 : decode cX12_manyOf 1 = .ok (.istore_n 3, 1) := by decide +kernel
theorem dX12_manyOf_2 : decode cX12_manyOf 2 = .ok (.iconst 0, 1) := by decide +kernel
theorem dX12_manyOf_3 : decode cX12_manyOf 3 = .ok (.istore 4, 2) := by decide +kernel
theorem dX12_manyOf_5 : decode cX12_manyOf 5 = .ok (.iload 4, 2) := by decide +kernel
theorem dX12_manyOf_7 : decode cX12_manyOf 7 = .ok (.bipush 8, 2) := by decide +kernel
theorem dX12_manyOf_9 : decode cX12_manyOf 9 = .ok (.if_icmp .ge 43, 3) := by decide +kernel
theorem dX12_manyOf_12 : decode cX12_manyOf 12 = .ok (.iload_n 3, 1) := by decide +kernel
theorem dX12_manyOf_13 : decode cX12_manyOf 13 = .ok (.aload_n 0, 1) := by decide +kernel
theorem dX12_manyOf_14 : decode cX12_manyOf 14 = .ok (.getfield 44, 3) := by decide +kernel
theorem dX12_manyOf_17 : decode cX12_manyOf 17 = .ok (.iload 4, 2) := by decide +kernel
theorem dX12_manyOf_19 : decode cX12_manyOf 19 = .ok (.iaload, 1) := by decide +kernel
theorem dX12_manyOf_20 : decode cX12_manyOf 20 = .ok (.ifCond .lt 23, 3) := by decide +kernel
theorem dX12_manyOf_23 : decode cX12_manyOf 23 = .ok (.aload_n 1, 1) := by decide +kernel
theorem dX12_manyOf_24 : decode cX12_manyOf 24 = .ok (.bipush 37, 2) := by decide +kernel
theorem dX12_manyOf_26 : decode cX12_manyOf 26 = .ok (.aload_n 0, 1) := by decide +kernel
theorem dX12_manyOf_27 : decode cX12_manyOf 27 = .ok (.getfield 44, 3) := by decide +kernel
theorem dX12_manyOf_30 : decode cX12_manyOf 30 = .ok (.iload 4, 2) := by decide +kernel
theorem dX12_manyOf_32 : decode cX12_manyOf 32 = .ok (.iaload, 1) := by decide +kernel
theorem dX12_manyOf_33 : decode cX12_manyOf 33 = .ok (.iadd, 1) := by decide +kernel
theorem dX12_manyOf_34 : decode cX12_manyOf 34 = .ok (.iaload, 1) := by decide +kernel
theorem dX12_manyOf_35 : decode cX12_manyOf 35 = .ok (.iload_n 2, 1) := by decide +kernel
theorem dX12_manyOf_36 : decode cX12_manyOf 36 = .ok (.if_icmp .ne 7, 3) := by decide +kernel
theorem dX12_manyOf_39 : decode cX12_manyOf 39 = .ok (.iconst 1, 1) := by decide +kernel
theorem dX12_manyOf_40 : decode cX12_manyOf 40 = .ok (.goto 4, 3) := by decide +kernel
theorem dX12_manyOf_43 : decode cX12_manyOf 43 = .ok (.iconst 0, 1) := by decide +kernel
theorem dX12_manyOf_44 : decode cX12_manyOf 44 = .ok (.iadd, 1) := by decide +kernel
theorem dX12_manyOf_45 : decode cX12_manyOf 45 = .ok (.istore_n 3, 1) := by decide +kernel
theorem dX12_manyOf_46 : decode cX12_manyOf 46 = .ok (.iinc 4 1, 3) := by decide +kernel
theorem dX12_manyOf_49 : decode cX12_manyOf 49 = .ok (.goto (-44), 3) := by decide +kernel
theorem dX12_manyOf_52 : decode cX12_manyOf 52 = .ok (.iload_n 3, 1) := by decide +kernel
theorem dX12_manyOf_53 : decode cX12_manyOf 53 = .ok (.ireturn, 1) := by decide +kernel
theorem dX12_lastInSet_0 : decode cX12_lastInSet 0 = .ok (.iconst 0, 1) := by decide +kernel
theorem dX12_lastInSet_1 : decode cX12_lastInSet 1 = .ok (.istore_n 1, 1) := by decide +kernel
theorem dX12_lastInSet_2 : decode cX12_lastInSet 2 = .ok (.iconst 1, 1) := by decide +kernel
theorem dX12_lastInSet_3 : decode cX12_lastInSet 3 = .ok (.istore_n 2, 1) := by decide +kernel
theorem dX12_lastInSet_4 : decode cX12_lastInSet 4 = .ok (.iload_n 2, 1) := by decide +kernel
theorem dX12_lastInSet_5 : decode cX12_lastInSet 5 = .ok (.bipush 8, 2) := by decide +kernel
theorem dX12_lastInSet_7 : decode cX12_lastInSet 7 = .ok (.if_icmp .ge 30, 3) := by decide +kernel
theorem dX12_lastInSet_10 : decode cX12_lastInSet 10 = .ok (.aload_n 0, 1) := by decide +kernel
theorem dX12_lastInSet_11 : decode cX12_lastInSet 11 = .ok (.getfield 44, 3) := by decide +kernel
theorem dX12_lastInSet_14 : decode cX12_lastInSet 14 = .ok (.iload_n 2, 1) := by decide +kernel
theorem dX12_lastInSet_15 : decode cX12_lastInSet 15 = .ok (.iaload, 1) := by decide +kernel
theorem dX12_lastInSet_16 : decode cX12_lastInSet 16 = .ok (.aload_n 0, 1) := by decide +kernel
theorem dX12_lastInSet_17 : decode cX12_lastInSet 17 = .ok (.getfield 44, 3) := by decide +kernel
theorem dX12_lastInSet_20 : decode cX12_lastInSet 20 = .ok (.iload_n 1, 1) := by decide +kernel
theorem dX12_lastInSet_21 : decode cX12_lastInSet 21 = .ok (.iaload, 1) := by decide +kernel
theorem dX12_lastInSet_22 : decode cX12_lastInSet 22 = .ok (.if_icmp .le 7, 3) := by decide +kernel
theorem dX12_lastInSet_25 : decode cX12_lastInSet 25 = .ok (.iload_n 2, 1) := by decide +kernel
theorem dX12_lastInSet_26 : decode cX12_lastInSet 26 = .ok (.goto 4, 3) := by decide +kernel
theorem dX12_lastInSet_29 : decode cX12_lastInSet 29 = .ok (.iload_n 1, 1) := by decide +kernel
theorem dX12_lastInSet_30 : decode cX12_lastInSet 30 = .ok (.istore_n 1, 1) := by decide +kernel
theorem dX12_lastInSet_31 : decode cX12_lastInSet 31 = .ok (.iinc 2 1, 3) := by decide +kernel
theorem dX12_lastInSet_34 : decode cX12_lastInSet 34 = .ok (.goto (-30), 3) := by decide +kernel
theorem dX12_lastInSet_37 : decode cX12_lastInSet 37 = .ok (.iload_n 1, 1) := by decide +kernel
theorem dX12_lastInSet_38 : decode cX12_lastInSet 38 = .ok (.ireturn, 1) := by decide +kernel
theorem dX12_isReason_0 : decode cX12_isReason 0 = .ok (.iconst 0, 1) := by decide +kernel
theorem dX12_isReason_1 : decode cX12_isReason 1 = .ok (.istore_n 3, 1) := by decide +kernel
theorem dX12_isReason_2 : decode cX12_isReason 2 = .ok (.iconst 0, 1) := by decide +kernel
theorem dX12_isReason_3 : decode cX12_isReason 3 = .ok (.istore 4, 2) := by decide +kernel
theorem dX12_isReason_5 : decode cX12_isReason 5 = .ok (.iload 4, 2) := by decide +kernel
theorem dX12_isReason_7 : decode cX12_isReason 7 = .ok (.aload_n 1, 1) := by decide +kernel
theorem dX12_isReason_8 : decode cX12_isReason 8 = .ok (.iconst 0, 1) := by decide +kernel
theorem dX12_isReason_9 : decode cX12_isReason 9 = .ok (.iaload, 1) := by decide +kernel
theorem dX12_isReason_10 : decode cX12_isReason 10 = .ok (.if_icmp .ge 33, 3) := by decide +kernel
theorem dX12_isReason_13 : decode cX12_isReason 13 = .ok (.iload_n 3, 1) := by decide +kernel
theorem dX12_isReason_14 : decode cX12_isReason 14 = .ok (.ifCond .ne 17, 3) := by decide +kernel
theorem dX12_isReason_17 : decode cX12_isReason 17 = .ok (.aload_n 1, 1) := by decide +kernel
theorem dX12_isReason_18 : decode cX12_isReason 18 = .ok (.bipush 73, 2) := by decide +kernel
theorem dX12_isReason_20 : decode cX12_isReason 20 = .ok (.iload 4, 2) := by decide +kernel
theorem dX12_isReason_22 : decode cX12_isReason 22 = .ok (.iadd, 1) := by decide +kernel
theorem dX12_isReason_23 : decode cX12_isReason 23 = .ok (.iaload, 1) := by decide +kernel
theorem dX12_isReason_24 : decode cX12_isReason 24 = .ok (.bipush 10, 2) := by decide +kernel
theorem dX12_isReason_26 : decode cX12_isReason 26 = .ok (.iload_n 2, 1) := by decide +kernel
theorem dX12_isReason_27 : decode cX12_isReason 27 = .ok (.iadd, 1) := by decide +kernel
theorem dX12_isReason_28 : decode cX12_isReason 28 = .ok (.if_icmp .ne 7, 3) := by decide +kernel
theorem dX12_isReason_31 : decode cX12_isReason 31 = .ok (.iconst 1, 1) := by decide +kernel
theorem dX12_isReason_32 : decode cX12_isReason 32 = .ok (.goto 4, 3) := by decide +kernel
theorem dX12_isReason_35 : decode cX12_isReason 35 = .ok (.iconst 0, 1) := by decide +kernel
theorem dX12_isReason_36 : decode cX12_isReason 36 = .ok (.istore_n 3, 1) := by decide +kernel
theorem dX12_isReason_37 : decode cX12_isReason 37 = .ok (.iinc 4 1, 3) := by decide +kernel
theorem dX12_isReason_40 : decode cX12_isReason 40 = .ok (.goto (-35), 3) := by decide +kernel
theorem dX12_isReason_43 : decode cX12_isReason 43 = .ok (.iload_n 3, 1) := by decide +kernel
theorem dX12_isReason_44 : decode cX12_isReason 44 = .ok (.ireturn, 1) := by decide +kernel
theorem dX12_forget_0 : decode cX12_forget 0 = .ok (.aload_n 1, 1) := by decide +kernel
theorem dX12_forget_1 : decode cX12_forget 1 = .ok (.bipush 109, 2) := by decide +kernel
theorem dX12_forget_3 : decode cX12_forget 3 = .ok (.dup2, 1) := by decide +kernel
theorem dX12_forget_4 : decode cX12_forget 4 = .ok (.iaload, 1) := by decide +kernel
theorem dX12_forget_5 : decode cX12_forget 5 = .ok (.iconst 1, 1) := by decide +kernel
theorem dX12_forget_6 : decode cX12_forget 6 = .ok (.isub, 1) := by decide +kernel
theorem dX12_forget_7 : decode cX12_forget 7 = .ok (.iastore, 1) := by decide +kernel
theorem dX12_forget_8 : decode cX12_forget 8 = .ok (.iload_n 2, 1) := by decide +kernel
theorem dX12_forget_9 : decode cX12_forget 9 = .ok (.istore_n 3, 1) := by decide +kernel
theorem dX12_forget_10 : decode cX12_forget 10 = .ok (.iload_n 3, 1) := by decide +kernel
theorem dX12_forget_11 : decode cX12_forget 11 = .ok (.aload_n 1, 1) := by decide +kernel
theorem dX12_forget_12 : decode cX12_forget 12 = .ok (.bipush 109, 2) := by decide +kernel
theorem dX12_forget_14 : decode cX12_forget 14 = .ok (.iaload, 1) := by decide +kernel
theorem dX12_forget_15 : decode cX12_forget 15 = .ok (.if_icmp .ge 67, 3) := by decide +kernel
theorem dX12_forget_18 : decode cX12_forget 18 = .ok (.aload_n 1, 1) := by decide +kernel
theorem dX12_forget_19 : decode cX12_forget 19 = .ok (.bipush 110, 2) := by decide +kernel
theorem dX12_forget_21 : decode cX12_forget 21 = .ok (.iload_n 3, 1) := by decide +kernel
theorem dX12_forget_22 : decode cX12_forget 22 = .ok (.iadd, 1) := by decide +kernel
theorem dX12_forget_23 : decode cX12_forget 23 = .ok (.aload_n 1, 1) := by decide +kernel
theorem dX12_forget_24 : decode cX12_forget 24 = .ok (.bipush 110, 2) := by decide +kernel
theorem dX12_forget_26 : decode cX12_forget 26 = .ok (.iload_n 3, 1) := by decide +kernel
theorem dX12_forget_27 : decode cX12_forget 27 = .ok (.iadd, 1) := by decide +kernel
theorem dX12_forget_28 : decode cX12_forget 28 = .ok (.iconst 1, 1) := by decide +kernel
theorem dX12_forget_29 : decode cX12_forget 29 = .ok (.iadd, 1) := by decide +kernel
theorem dX12_forget_30 : decode cX12_forget 30 = .ok (.iaload, 1) := by decide +kernel
theorem dX12_forget_31 : decode cX12_forget 31 = .ok (.iastore, 1) := by decide +kernel
theorem dX12_forget_32 : decode cX12_forget 32 = .ok (.iconst 0, 1) := by decide +kernel
theorem dX12_forget_33 : decode cX12_forget 33 = .ok (.istore 4, 2) := by decide +kernel
theorem dX12_forget_35 : decode cX12_forget 35 = .ok (.iload 4, 2) := by decide +kernel
theorem dX12_forget_37 : decode cX12_forget 37 = .ok (.bipush 8, 2) := by decide +kernel
theorem dX12_forget_39 : decode cX12_forget 39 = .ok (.if_icmp .ge 37, 3) := by decide +kernel
theorem dX12_forget_42 : decode cX12_forget 42 = .ok (.aload_n 1, 1) := by decide +kernel
theorem dX12_forget_43 : decode cX12_forget 43 = .ok (.sipush 150, 3) := by decide +kernel
theorem dX12_forget_46 : decode cX12_forget 46 = .ok (.bipush 8, 2) := by decide +kernel
theorem dX12_forget_48 : decode cX12_forget 48 = .ok (.iload_n 3, 1) := by decide +kernel
theorem dX12_forget_49 : decode cX12_forget 49 = .ok (.imul, 1) := by decide +kernel
theorem dX12_forget_50 : decode cX12_forget 50 = .ok (.iadd, 1) := by decide +kernel
theorem dX12_forget_51 : decode cX12_forget 51 = .ok (.iload 4, 2) := by decide +kernel
theorem dX12_forget_53 : decode cX12_forget 53 = .ok (.iadd, 1) := by decide +kernel
theorem dX12_forget_54 : decode cX12_forget 54 = .ok (.aload_n 1, 1) := by decide +kernel
theorem dX12_forget_55 : decode cX12_forget 55 = .ok (.sipush 150, 3) := by decide +kernel
theorem dX12_forget_58 : decode cX12_forget 58 = .ok (.bipush 8, 2) := by decide +kernel
theorem dX12_forget_60 : decode cX12_forget 60 = .ok (.iload_n 3, 1) := by decide +kernel
theorem dX12_forget_61 : decode cX12_forget 61 = .ok (.iconst 1, 1) := by decide +kernel
theorem dX12_forget_62 : decode cX12_forget 62 = .ok (.iadd, 1) := by decide +kernel
theorem dX12_forget_63 : decode cX12_forget 63 = .ok (.imul, 1) := by decide +kernel
theorem dX12_forget_64 : decode cX12_forget 64 = .ok (.iadd, 1) := by decide +kernel
theorem dX12_forget_65 : decode cX12_forget 65 = .ok (.iload 4, 2) := by decide +kernel
theorem dX12_forget_67 : decode cX12_forget 67 = .ok (.iadd, 1) := by decide +kernel
theorem dX12_forget_68 : decode cX12_forget 68 = .ok (.iaload, 1) := by decide +kernel
theorem dX12_forget_69 : decode cX12_forget 69 = .ok (.iastore, 1) := by decide +kernel
theorem dX12_forget_70 : decode cX12_forget 70 = .ok (.iinc 4 1, 3) := by decide +kernel
theorem dX12_forget_73 : decode cX12_forget 73 = .ok (.goto (-38), 3) := by decide +kernel
theorem dX12_forget_76 : decode cX12_forget 76 = .ok (.iinc 3 1, 3) := by decide +kernel
theorem dX12_forget_79 : decode cX12_forget 79 = .ok (.goto (-69), 3) := by decide +kernel
theorem dX12_forget_82 : decode cX12_forget 82 = .ok (.iconst 0, 1) := by decide +kernel
theorem dX12_forget_83 : decode cX12_forget 83 = .ok (.istore_n 3, 1) := by decide +kernel
theorem dX12_forget_84 : decode cX12_forget 84 = .ok (.iload_n 3, 1) := by decide +kernel
theorem dX12_forget_85 : decode cX12_forget 85 = .ok (.aload_n 1, 1) := by decide +kernel
theorem dX12_forget_86 : decode cX12_forget 86 = .ok (.iconst 0, 1) := by decide +kernel
theorem dX12_forget_87 : decode cX12_forget 87 = .ok (.iaload, 1) := by decide +kernel
theorem dX12_forget_88 : decode cX12_forget 88 = .ok (.if_icmp .ge 36, 3) := by decide +kernel
theorem dX12_forget_91 : decode cX12_forget 91 = .ok (.aload_n 1, 1) := by decide +kernel
theorem dX12_forget_92 : decode cX12_forget 92 = .ok (.bipush 73, 2) := by decide +kernel
theorem dX12_forget_94 : decode cX12_forget 94 = .ok (.iload_n 3, 1) := by decide +kernel
theorem dX12_forget_95 : decode cX12_forget 95 = .ok (.iadd, 1) := by decide +kernel
theorem dX12_forget_96 : decode cX12_forget 96 = .ok (.dup2, 1) := by decide +kernel
theorem dX12_forget_97 : decode cX12_forget 97 = .ok (.iaload, 1) := by decide +kernel
theorem dX12_forget_98 : decode cX12_forget 98 = .ok (.aload_n 1, 1) := by decide +kernel
theorem dX12_forget_99 : decode cX12_forget 99 = .ok (.bipush 73, 2) := by decide +kernel
theorem dX12_forget_101 : decode cX12_forget 101 = .ok (.iload_n 3, 1) := by decide +kernel
theorem dX12_forget_102 : decode cX12_forget 102 = .ok (.iadd, 1) := by decide +kernel
theorem dX12_forget_103 : decode cX12_forget 103 = .ok (.iaload, 1) := by decide +kernel
theorem dX12_forget_104 : decode cX12_forget 104 = .ok (.bipush 10, 2) := by decide +kernel
theorem dX12_forget_106 : decode cX12_forget 106 = .ok (.iload_n 2, 1) := by decide +kernel
theorem dX12_forget_107 : decode cX12_forget 107 = .ok (.iadd, 1) := by decide +kernel
theorem dX12_forget_108 : decode cX12_forget 108 = .ok (.if_icmp .le 7, 3) := by decide +kernel
theorem dX12_forget_111 : decode cX12_forget 111 = .ok (.iconst 1, 1) := by decide +kernel
theorem dX12_forget_112 : decode cX12_forget 112 = .ok (.goto 4, 3) := by decide +kernel
theorem dX12_forget_115 : decode cX12_forget 115 = .ok (.iconst 0, 1) := by decide +kernel
theorem dX12_forget_116 : decode cX12_forget 116 = .ok (.isub, 1) := by decide +kernel
theorem dX12_forget_117 : decode cX12_forget 117 = .ok (.iastore, 1) := by decide +kernel
theorem dX12_forget_118 : decode cX12_forget 118 = .ok (.iinc 3 1, 3) := by decide +kernel
theorem dX12_forget_121 : decode cX12_forget 121 = .ok (.goto (-37), 3) := by decide +kernel
theorem dX12_forget_124 : decode cX12_forget 124 = .ok (.return_, 1) := by decide +kernel
theorem dX12_addCut_0 : decode cX12_addCut 0 = .ok (.aload_n 1, 1) := by decide +kernel
theorem dX12_addCut_1 : decode cX12_addCut 1 = .ok (.bipush 109, 2) := by decide +kernel
theorem dX12_addCut_3 : decode cX12_addCut 3 = .ok (.iaload, 1) := by decide +kernel
theorem dX12_addCut_4 : decode cX12_addCut 4 = .ok (.bipush 40, 2) := by decide +kernel
theorem dX12_addCut_6 : decode cX12_addCut 6 = .ok (.if_icmp .ne 26, 3) := by decide +kernel
theorem dX12_addCut_9 : decode cX12_addCut 9 = .ok (.iconst 0, 1) := by decide +kernel
theorem dX12_addCut_10 : decode cX12_addCut 10 = .ok (.istore_n 2, 1) := by decide +kernel
theorem dX12_addCut_11 : decode cX12_addCut 11 = .ok (.aload_n 0, 1) := by decide +kernel
theorem dX12_addCut_12 : decode cX12_addCut 12 = .ok (.aload_n 1, 1) := by decide +kernel
theorem dX12_addCut_13 : decode cX12_addCut 13 = .ok (.iload_n 2, 1) := by decide +kernel
theorem dX12_addCut_14 : decode cX12_addCut 14 = .ok (.invokevirtual 210, 3) := by decide +kernel
theorem dX12_addCut_17 : decode cX12_addCut 17 = .ok (.ifCond .eq 9, 3) := by decide +kernel
theorem dX12_addCut_20 : decode cX12_addCut 20 = .ok (.iinc 2 1, 3) := by decide +kernel
theorem dX12_addCut_23 : decode cX12_addCut 23 = .ok (.goto (-12), 3) := by decide +kernel
theorem dX12_addCut_26 : decode cX12_addCut 26 = .ok (.aload_n 0, 1) := by decide +kernel
theorem dX12_addCut_27 : decode cX12_addCut 27 = .ok (.aload_n 1, 1) := by decide +kernel
theorem dX12_addCut_28 : decode cX12_addCut 28 = .ok (.iload_n 2, 1) := by decide +kernel
theorem dX12_addCut_29 : decode cX12_addCut 29 = .ok (.invokevirtual 213, 3) := by decide +kernel
theorem dX12_addCut_32 : decode cX12_addCut 32 = .ok (.aload_n 1, 1) := by decide +kernel
theorem dX12_addCut_33 : decode cX12_addCut 33 = .ok (.bipush 109, 2) := by decide +kernel
theorem dX12_addCut_35 : decode cX12_addCut 35 = .ok (.iaload, 1) := by decide +kernel
theorem dX12_addCut_36 : decode cX12_addCut 36 = .ok (.istore_n 2, 1) := by decide +kernel
theorem dX12_addCut_37 : decode cX12_addCut 37 = .ok (.iconst 0, 1) := by decide +kernel
theorem dX12_addCut_38 : decode cX12_addCut 38 = .ok (.istore_n 3, 1) := by decide +kernel
theorem dX12_addCut_39 : decode cX12_addCut 39 = .ok (.iconst 0, 1) := by decide +kernel
theorem dX12_addCut_40 : decode cX12_addCut 40 = .ok (.istore 4, 2) := by decide +kernel
theorem dX12_addCut_42 : decode cX12_addCut 42 = .ok (.iload 4, 2) := by decide +kernel
theorem dX12_addCut_44 : decode cX12_addCut 44 = .ok (.aload_n 1, 1) := by decide +kernel
theorem dX12_addCut_45 : decode cX12_addCut 45 = .ok (.iconst 0, 1) := by decide +kernel
theorem dX12_addCut_46 : decode cX12_addCut 46 = .ok (.iaload, 1) := by decide +kernel
theorem dX12_addCut_47 : decode cX12_addCut 47 = .ok (.if_icmp .ge 58, 3) := by decide +kernel
theorem dX12_addCut_50 : decode cX12_addCut 50 = .ok (.iconst 0, 1) := by decide +kernel
theorem dX12_addCut_51 : decode cX12_addCut 51 = .ok (.istore 5, 2) := by decide +kernel
theorem dX12_addCut_53 : decode cX12_addCut 53 = .ok (.iload 5, 2) := by decide +kernel
theorem dX12_addCut_55 : decode cX12_addCut 55 = .ok (.bipush 8, 2) := by decide +kernel
theorem dX12_addCut_57 : decode cX12_addCut 57 = .ok (.if_icmp .ge 42, 3) := by decide +kernel
theorem dX12_addCut_60 : decode cX12_addCut 60 = .ok (.aload_n 0, 1) := by decide +kernel
theorem dX12_addCut_61 : decode cX12_addCut 61 = .ok (.getfield 44, 3) := by decide +kernel
theorem dX12_addCut_64 : decode cX12_addCut 64 = .ok (.iload 5, 2) := by decide +kernel
theorem dX12_addCut_66 : decode cX12_addCut 66 = .ok (.iaload, 1) := by decide +kernel
theorem dX12_addCut_67 : decode cX12_addCut 67 = .ok (.iload 4, 2) := by decide +kernel
theorem dX12_addCut_69 : decode cX12_addCut 69 = .ok (.if_icmp .ne 24, 3) := by decide +kernel
theorem dX12_addCut_72 : decode cX12_addCut 72 = .ok (.aload_n 1, 1) := by decide +kernel
theorem dX12_addCut_73 : decode cX12_addCut 73 = .ok (.sipush 150, 3) := by decide +kernel
theorem dX12_addCut_76 : decode cX12_addCut 76 = .ok (.bipush 8, 2) := by decide +kernel
theorem dX12_addCut_78 : decode cX12_addCut 78 = .ok (.iload_n 2, 1) := by decide +kernel
theorem dX12_addCut_79 : decode cX12_addCut 79 = .ok (.imul, 1) := by decide +kernel
theorem dX12_addCut_80 : decode cX12_addCut 80 = .ok (.iadd, 1) := by decide +kernel
theorem dX12_addCut_81 : decode cX12_addCut 81 = .ok (.iload_n 3, 1) := by decide +kernel
theorem dX12_addCut_82 : decode cX12_addCut 82 = .ok (.iadd, 1) := by decide +kernel
theorem dX12_addCut_83 : decode cX12_addCut 83 = .ok (.aload_n 1, 1) := by decide +kernel
theorem dX12_addCut_84 : decode cX12_addCut 84 = .ok (.iconst 1, 1) := by decide +kernel
theorem dX12_addCut_85 : decode cX12_addCut 85 = .ok (.iload 4, 2) := by decide +kernel
theorem dX12_addCut_87 : decode cX12_addCut 87 = .ok (.iadd, 1) := by decide +kernel
theorem dX12_addCut_88 : decode cX12_addCut 88 = .ok (.iaload, 1) := by decide +kernel
theorem dX12_addCut_89 : decode cX12_addCut 89 = .ok (.iastore, 1) := by decide +kernel
theorem dX12_addCut_90 : decode cX12_addCut 90 = .ok (.iinc 3 1, 3) := by decide +kernel
theorem dX12_addCut_93 : decode cX12_addCut 93 = .ok (.iinc 5 1, 3) := by decide +kernel
theorem dX12_addCut_96 : decode cX12_addCut 96 = .ok (.goto (-43), 3) := by decide +kernel
theorem dX12_addCut_99 : decode cX12_addCut 99 = .ok (.iinc 4 1, 3) := by decide +kernel
theorem dX12_addCut_102 : decode cX12_addCut 102 = .ok (.goto (-60), 3) := by decide +kernel
theorem dX12_addCut_105 : decode cX12_addCut 105 = .ok (.iload_n 3, 1) := by decide +kernel
theorem dX12_addCut_106 : decode cX12_addCut 106 = .ok (.istore 4, 2) := by decide +kernel
theorem dX12_addCut_108 : decode cX12_addCut 108 = .ok (.iload 4, 2) := by decide +kernel
theorem dX12_addCut_110 : decode cX12_addCut 110 = .ok (.bipush 8, 2) := by decide +kernel
theorem dX12_addCut_112 : decode cX12_addCut 112 = .ok (.if_icmp .ge 23, 3) := by decide +kernel
theorem dX12_addCut_115 : decode cX12_addCut 115 = .ok (.aload_n 1, 1) := by decide +kernel
theorem dX12_addCut_116 : decode cX12_addCut 116 = .ok (.sipush 150, 3) := by decide +kernel
theorem dX12_addCut_119 : decode cX12_addCut 119 = .ok (.bipush 8, 2) := by decide +kernel
theorem dX12_addCut_121 : decode cX12_addCut 121 = .ok (.iload_n 2, 1) := by decide +kernel
theorem dX12_addCut_122 : decode cX12_addCut 122 = .ok (.imul, 1) := by decide +kernel
theorem dX12_addCut_123 : decode cX12_addCut 123 = .ok (.iadd, 1) := by decide +kernel
theorem dX12_addCut_124 : decode cX12_addCut 124 = .ok (.iload 4, 2) := by decide +kernel
theorem dX12_addCut_126 : decode cX12_addCut 126 = .ok (.iadd, 1) := by decide +kernel
theorem dX12_addCut_127 : decode cX12_addCut 127 = .ok (.iconst 0, 1) := by decide +kernel
theorem dX12_addCut_128 : decode cX12_addCut 128 = .ok (.iastore, 1) := by decide +kernel
theorem dX12_addCut_129 : decode cX12_addCut 129 = .ok (.iinc 4 1, 3) := by decide +kernel
theorem dX12_addCut_132 : decode cX12_addCut 132 = .ok (.goto (-24), 3) := by decide +kernel
theorem dX12_addCut_135 : decode cX12_addCut 135 = .ok (.aload_n 1, 1) := by decide +kernel
theorem dX12_addCut_136 : decode cX12_addCut 136 = .ok (.bipush 110, 2) := by decide +kernel
theorem dX12_addCut_138 : decode cX12_addCut 138 = .ok (.iload_n 2, 1) := by decide +kernel
theorem dX12_addCut_139 : decode cX12_addCut 139 = .ok (.iadd, 1) := by decide +kernel
theorem dX12_addCut_140 : decode cX12_addCut 140 = .ok (.iload_n 3, 1) := by decide +kernel
theorem dX12_addCut_141 : decode cX12_addCut 141 = .ok (.iastore, 1) := by decide +kernel
theorem dX12_addCut_142 : decode cX12_addCut 142 = .ok (.aload_n 1, 1) := by decide +kernel
theorem dX12_addCut_143 : decode cX12_addCut 143 = .ok (.bipush 109, 2) := by decide +kernel
theorem dX12_addCut_145 : decode cX12_addCut 145 = .ok (.dup2, 1) := by decide +kernel
theorem dX12_addCut_146 : decode cX12_addCut 146 = .ok (.iaload, 1) := by decide +kernel
theorem dX12_addCut_147 : decode cX12_addCut 147 = .ok (.iconst 1, 1) := by decide +kernel
theorem dX12_addCut_148 : decode cX12_addCut 148 = .ok (.iadd, 1) := by decide +kernel
theorem dX12_addCut_149 : decode cX12_addCut 149 = .ok (.iastore, 1) := by decide +kernel
theorem dX12_addCut_150 : decode cX12_addCut 150 = .ok (.iload_n 3, 1) := by decide +kernel
theorem dX12_addCut_151 : decode cX12_addCut 151 = .ok (.ireturn, 1) := by decide +kernel
theorem dX12_leaveAbove_0 : decode cX12_leaveAbove 0 = .ok (.aload_n 1, 1) := by decide +kernel
theorem dX12_leaveAbove_1 : decode cX12_leaveAbove 1 = .ok (.iconst 0, 1) := by decide +kernel
theorem dX12_leaveAbove_2 : decode cX12_leaveAbove 2 = .ok (.iaload, 1) := by decide +kernel
theorem dX12_leaveAbove_3 : decode cX12_leaveAbove 3 = .ok (.ifCond .le 53, 3) := by decide +kernel
theorem dX12_leaveAbove_6 : decode cX12_leaveAbove 6 = .ok (.aload_n 1, 1) := by decide +kernel
theorem dX12_leaveAbove_7 : decode cX12_leaveAbove 7 = .ok (.bipush 37, 2) := by decide +kernel
theorem dX12_leaveAbove_9 : decode cX12_leaveAbove 9 = .ok (.aload_n 1, 1) := by decide +kernel
theorem dX12_leaveAbove_10 : decode cX12_leaveAbove 10 = .ok (.iconst 0, 1) := by decide +kernel
theorem dX12_leaveAbove_11 : decode cX12_leaveAbove 11 = .ok (.iaload, 1) := by decide +kernel
theorem dX12_leaveAbove_12 : decode cX12_leaveAbove 12 = .ok (.iadd, 1) := by decide +kernel
theorem dX12_leaveAbove_13 : decode cX12_leaveAbove 13 = .ok (.iconst 1, 1) := by decide +kernel
theorem dX12_leaveAbove_14 : decode cX12_leaveAbove 14 = .ok (.isub, 1) := by decide +kernel
theorem dX12_leaveAbove_15 : decode cX12_leaveAbove 15 = .ok (.iaload, 1) := by decide +kernel
theorem dX12_leaveAbove_16 : decode cX12_leaveAbove 16 = .ok (.iload_n 2, 1) := by decide +kernel
theorem dX12_leaveAbove_17 : decode cX12_leaveAbove 17 = .ok (.if_icmp .le 39, 3) := by decide +kernel
theorem dX12_leaveAbove_20 : decode cX12_leaveAbove 20 = .ok (.aload_n 1, 1) := by decide +kernel
theorem dX12_leaveAbove_21 : decode cX12_leaveAbove 21 = .ok (.iconst 0, 1) := by decide +kernel
theorem dX12_leaveAbove_22 : decode cX12_leaveAbove 22 = .ok (.dup2, 1) := by decide +kernel
theorem dX12_leaveAbove_23 : decode cX12_leaveAbove 23 = .ok (.iaload, 1) := by decide +kernel
theorem dX12_leaveAbove_24 : decode cX12_leaveAbove 24 = .ok (.iconst 1, 1) := by decide +kernel
theorem dX12_leaveAbove_25 : decode cX12_leaveAbove 25 = .ok (.isub, 1) := by decide +kernel
theorem dX12_leaveAbove_26 : decode cX12_leaveAbove 26 = .ok (.iastore, 1) := by decide +kernel
theorem dX12_leaveAbove_27 : decode cX12_leaveAbove 27 = .ok (.aload_n 1, 1) := by decide +kernel
theorem dX12_leaveAbove_28 : decode cX12_leaveAbove 28 = .ok (.iconst 1, 1) := by decide +kernel
theorem dX12_leaveAbove_29 : decode cX12_leaveAbove 29 = .ok (.aload_n 1, 1) := by decide +kernel
theorem dX12_leaveAbove_30 : decode cX12_leaveAbove 30 = .ok (.iconst 0, 1) := by decide +kernel
theorem dX12_leaveAbove_31 : decode cX12_leaveAbove 31 = .ok (.iaload, 1) := by decide +kernel
theorem dX12_leaveAbove_32 : decode cX12_leaveAbove 32 = .ok (.iadd, 1) := by decide +kernel
theorem dX12_leaveAbove_33 : decode cX12_leaveAbove 33 = .ok (.iconst 0, 1) := by decide +kernel
theorem dX12_leaveAbove_34 : decode cX12_leaveAbove 34 = .ok (.iastore, 1) := by decide +kernel
theorem dX12_leaveAbove_35 : decode cX12_leaveAbove 35 = .ok (.aload_n 1, 1) := by decide +kernel
theorem dX12_leaveAbove_36 : decode cX12_leaveAbove 36 = .ok (.bipush 37, 2) := by decide +kernel
theorem dX12_leaveAbove_38 : decode cX12_leaveAbove 38 = .ok (.aload_n 1, 1) := by decide +kernel
theorem dX12_leaveAbove_39 : decode cX12_leaveAbove 39 = .ok (.iconst 0, 1) := by decide +kernel
theorem dX12_leaveAbove_40 : decode cX12_leaveAbove 40 = .ok (.iaload, 1) := by decide +kernel
theorem dX12_leaveAbove_41 : decode cX12_leaveAbove 41 = .ok (.iadd, 1) := by decide +kernel
theorem dX12_leaveAbove_42 : decode cX12_leaveAbove 42 = .ok (.iconst 0, 1) := by decide +kernel
theorem dX12_leaveAbove_43 : decode cX12_leaveAbove 43 = .ok (.iastore, 1) := by decide +kernel
theorem dX12_leaveAbove_44 : decode cX12_leaveAbove 44 = .ok (.aload_n 1, 1) := by decide +kernel
theorem dX12_leaveAbove_45 : decode cX12_leaveAbove 45 = .ok (.bipush 73, 2) := by decide +kernel
theorem dX12_leaveAbove_47 : decode cX12_leaveAbove 47 = .ok (.aload_n 1, 1) := by decide +kernel
theorem dX12_leaveAbove_48 : decode cX12_leaveAbove 48 = .ok (.iconst 0, 1) := by decide +kernel
theorem dX12_leaveAbove_49 : decode cX12_leaveAbove 49 = .ok (.iaload, 1) := by decide +kernel
theorem dX12_leaveAbove_50 : decode cX12_leaveAbove 50 = .ok (.iadd, 1) := by decide +kernel
theorem dX12_leaveAbove_51 : decode cX12_leaveAbove 51 = .ok (.iconst 0, 1) := by decide +kernel
theorem dX12_leaveAbove_52 : decode cX12_leaveAbove 52 = .ok (.iastore, 1) := by decide +kernel
theorem dX12_leaveAbove_53 : decode cX12_leaveAbove 53 = .ok (.goto (-53), 3) := by decide +kernel
theorem dX12_leaveAbove_56 : decode cX12_leaveAbove 56 = .ok (.return_, 1) := by decide +kernel
theorem dX12_learnOn_0 : decode cX12_learnOn 0 = .ok (.iconst 0, 1) := by decide +kernel
theorem dX12_learnOn_1 : decode cX12_learnOn 1 = .ok (.istore_n 2, 1) := by decide +kernel
theorem dX12_learnOn_2 : decode cX12_learnOn 2 = .ok (.iload_n 2, 1) := by decide +kernel
theorem dX12_learnOn_3 : decode cX12_learnOn 3 = .ok (.bipush 8, 2) := by decide +kernel
theorem dX12_learnOn_5 : decode cX12_learnOn 5 = .ok (.if_icmp .ge 17, 3) := by decide +kernel
theorem dX12_learnOn_8 : decode cX12_learnOn 8 = .ok (.aload_n 0, 1) := by decide +kernel
theorem dX12_learnOn_9 : decode cX12_learnOn 9 = .ok (.getfield 44, 3) := by decide +kernel
theorem dX12_learnOn_12 : decode cX12_learnOn 12 = .ok (.iload_n 2, 1) := by decide +kernel
theorem dX12_learnOn_13 : decode cX12_learnOn 13 = .ok (.bipush (-9), 2) := by decide +kernel
theorem dX12_learnOn_15 : decode cX12_learnOn 15 = .ok (.iastore, 1) := by decide +kernel
theorem dX12_learnOn_16 : decode cX12_learnOn 16 = .ok (.iinc 2 1, 3) := by decide +kernel
theorem dX12_learnOn_19 : decode cX12_learnOn 19 = .ok (.goto (-17), 3) := by decide +kernel
theorem dX12_learnOn_22 : decode cX12_learnOn 22 = .ok (.aload_n 0, 1) := by decide +kernel
theorem dX12_learnOn_23 : decode cX12_learnOn 23 = .ok (.aload_n 1, 1) := by decide +kernel
theorem dX12_learnOn_24 : decode cX12_learnOn 24 = .ok (.aload_n 0, 1) := by decide +kernel
theorem dX12_learnOn_25 : decode cX12_learnOn 25 = .ok (.aload_n 1, 1) := by decide +kernel
theorem dX12_learnOn_26 : decode cX12_learnOn 26 = .ok (.invokevirtual 176, 3) := by decide +kernel
theorem dX12_learnOn_29 : decode cX12_learnOn 29 = .ok (.aload_n 1, 1) := by decide +kernel
theorem dX12_learnOn_30 : decode cX12_learnOn 30 = .ok (.iconst 0, 1) := by decide +kernel
theorem dX12_learnOn_31 : decode cX12_learnOn 31 = .ok (.iaload, 1) := by decide +kernel
theorem dX12_learnOn_32 : decode cX12_learnOn 32 = .ok (.bipush (-9), 2) := by decide +kernel
theorem dX12_learnOn_34 : decode cX12_learnOn 34 = .ok (.iconst 1, 1) := by decide +kernel
theorem dX12_learnOn_35 : decode cX12_learnOn 35 = .ok (.invokevirtual 206, 3) := by decide +kernel
theorem dX12_learnOn_38 : decode cX12_learnOn 38 = .ok (.istore_n 2, 1) := by decide +kernel
theorem dX12_learnOn_39 : decode cX12_learnOn 39 = .ok (.aload_n 0, 1) := by decide +kernel
theorem dX12_learnOn_40 : decode cX12_learnOn 40 = .ok (.aload_n 1, 1) := by decide +kernel
theorem dX12_learnOn_41 : decode cX12_learnOn 41 = .ok (.bipush (-9), 2) := by decide +kernel
theorem dX12_learnOn_43 : decode cX12_learnOn 43 = .ok (.invokevirtual 216, 3) := by decide +kernel
theorem dX12_learnOn_46 : decode cX12_learnOn 46 = .ok (.istore_n 3, 1) := by decide +kernel
theorem dX12_learnOn_47 : decode cX12_learnOn 47 = .ok (.aload_n 0, 1) := by decide +kernel
theorem dX12_learnOn_48 : decode cX12_learnOn 48 = .ok (.aload_n 1, 1) := by decide +kernel
theorem dX12_learnOn_49 : decode cX12_learnOn 49 = .ok (.iload_n 3, 1) := by decide +kernel
theorem dX12_learnOn_50 : decode cX12_learnOn 50 = .ok (.invokevirtual 219, 3) := by decide +kernel
theorem dX12_learnOn_53 : decode cX12_learnOn 53 = .ok (.iconst 1, 1) := by decide +kernel
theorem dX12_learnOn_54 : decode cX12_learnOn 54 = .ok (.if_icmp .le 51, 3) := by decide +kernel
theorem dX12_learnOn_57 : decode cX12_learnOn 57 = .ok (.iload_n 3, 1) := by decide +kernel
theorem dX12_learnOn_58 : decode cX12_learnOn 58 = .ok (.ifCond .le 47, 3) := by decide +kernel
theorem dX12_learnOn_61 : decode cX12_learnOn 61 = .ok (.aload_n 0, 1) := by decide +kernel
theorem dX12_learnOn_62 : decode cX12_learnOn 62 = .ok (.invokevirtual 222, 3) := by decide +kernel
theorem dX12_learnOn_65 : decode cX12_learnOn 65 = .ok (.istore 4, 2) := by decide +kernel
theorem dX12_learnOn_67 : decode cX12_learnOn 67 = .ok (.aload_n 0, 1) := by decide +kernel
theorem dX12_learnOn_68 : decode cX12_learnOn 68 = .ok (.getfield 44, 3) := by decide +kernel
theorem dX12_learnOn_71 : decode cX12_learnOn 71 = .ok (.iload 4, 2) := by decide +kernel
theorem dX12_learnOn_73 : decode cX12_learnOn 73 = .ok (.iaload, 1) := by decide +kernel
theorem dX12_learnOn_74 : decode cX12_learnOn 74 = .ok (.istore 5, 2) := by decide +kernel
theorem dX12_learnOn_76 : decode cX12_learnOn 76 = .ok (.aload_n 0, 1) := by decide +kernel
theorem dX12_learnOn_77 : decode cX12_learnOn 77 = .ok (.getfield 44, 3) := by decide +kernel
theorem dX12_learnOn_80 : decode cX12_learnOn 80 = .ok (.iload 4, 2) := by decide +kernel
theorem dX12_learnOn_82 : decode cX12_learnOn 82 = .ok (.bipush (-9), 2) := by decide +kernel
theorem dX12_learnOn_84 : decode cX12_learnOn 84 = .ok (.iastore, 1) := by decide +kernel
theorem dX12_learnOn_85 : decode cX12_learnOn 85 = .ok (.aload_n 0, 1) := by decide +kernel
theorem dX12_learnOn_86 : decode cX12_learnOn 86 = .ok (.aload_n 1, 1) := by decide +kernel
theorem dX12_learnOn_87 : decode cX12_learnOn 87 = .ok (.iload 5, 2) := by decide +kernel
theorem dX12_learnOn_89 : decode cX12_learnOn 89 = .ok (.iconst 1, 1) := by decide +kernel
theorem dX12_learnOn_90 : decode cX12_learnOn 90 = .ok (.invokevirtual 225, 3) := by decide +kernel
theorem dX12_learnOn_93 : decode cX12_learnOn 93 = .ok (.istore_n 2, 1) := by decide +kernel
theorem dX12_learnOn_94 : decode cX12_learnOn 94 = .ok (.aload_n 0, 1) := by decide +kernel
theorem dX12_learnOn_95 : decode cX12_learnOn 95 = .ok (.aload_n 1, 1) := by decide +kernel
theorem dX12_learnOn_96 : decode cX12_learnOn 96 = .ok (.bipush (-9), 2) := by decide +kernel
theorem dX12_learnOn_98 : decode cX12_learnOn 98 = .ok (.invokevirtual 216, 3) := by decide +kernel
theorem dX12_learnOn_101 : decode cX12_learnOn 101 = .ok (.istore_n 3, 1) := by decide +kernel
theorem dX12_learnOn_102 : decode cX12_learnOn 102 = .ok (.goto (-55), 3) := by decide +kernel
theorem dX12_learnOn_105 : decode cX12_learnOn 105 = .ok (.iload_n 3, 1) := by decide +kernel
theorem dX12_learnOn_106 : decode cX12_learnOn 106 = .ok (.ifCond .ne 11, 3) := by decide +kernel
theorem dX12_learnOn_109 : decode cX12_learnOn 109 = .ok (.aload_n 1, 1) := by decide +kernel
theorem dX12_learnOn_110 : decode cX12_learnOn 110 = .ok (.sipush 470, 3) := by decide +kernel
theorem dX12_learnOn_113 : decode cX12_learnOn 113 = .ok (.iconst 1, 1) := by decide +kernel
theorem dX12_learnOn_114 : decode cX12_learnOn 114 = .ok (.iastore, 1) := by decide +kernel
theorem dX12_learnOn_115 : decode cX12_learnOn 115 = .ok (.iconst 0, 1) := by decide +kernel
theorem dX12_learnOn_116 : decode cX12_learnOn 116 = .ok (.ireturn, 1) := by decide +kernel
theorem dX12_learnOn_117 : decode cX12_learnOn 117 = .ok (.aload_n 0, 1) := by decide +kernel
theorem dX12_learnOn_118 : decode cX12_learnOn 118 = .ok (.aload_n 1, 1) := by decide +kernel
theorem dX12_learnOn_119 : decode cX12_learnOn 119 = .ok (.invokevirtual 229, 3) := by decide +kernel
theorem dX12_learnOn_122 : decode cX12_learnOn 122 = .ok (.istore 4, 2) := by decide +kernel
theorem dX12_learnOn_124 : decode cX12_learnOn 124 = .ok (.aload_n 0, 1) := by decide +kernel
theorem dX12_learnOn_125 : decode cX12_learnOn 125 = .ok (.aload_n 1, 1) := by decide +kernel
theorem dX12_learnOn_126 : decode cX12_learnOn 126 = .ok (.aload_n 0, 1) := by decide +kernel
theorem dX12_learnOn_127 : decode cX12_learnOn 127 = .ok (.aload_n 1, 1) := by decide +kernel
theorem dX12_learnOn_128 : decode cX12_learnOn 128 = .ok (.aload_n 0, 1) := by decide +kernel
theorem dX12_learnOn_129 : decode cX12_learnOn 129 = .ok (.getfield 44, 3) := by decide +kernel
theorem dX12_learnOn_132 : decode cX12_learnOn 132 = .ok (.aload_n 0, 1) := by decide +kernel
theorem dX12_learnOn_133 : decode cX12_learnOn 133 = .ok (.invokevirtual 222, 3) := by decide +kernel
theorem dX12_learnOn_136 : decode cX12_learnOn 136 = .ok (.iaload, 1) := by decide +kernel
theorem dX12_learnOn_137 : decode cX12_learnOn 137 = .ok (.invokevirtual 216, 3) := by decide +kernel
theorem dX12_learnOn_140 : decode cX12_learnOn 140 = .ok (.invokevirtual 232, 3) := by decide +kernel
theorem dX12_learnOn_143 : decode cX12_learnOn 143 = .ok (.aload_n 0, 1) := by decide +kernel
theorem dX12_learnOn_144 : decode cX12_learnOn 144 = .ok (.aload_n 1, 1) := by decide +kernel
theorem dX12_learnOn_145 : decode cX12_learnOn 145 = .ok (.invokevirtual 191, 3) := by decide +kernel
theorem dX12_learnOn_148 : decode cX12_learnOn 148 = .ok (.iload 4, 2) := by decide +kernel
theorem dX12_learnOn_150 : decode cX12_learnOn 150 = .ok (.ireturn, 1) := by decide +kernel
theorem dX12_mayLearn_0 : decode cX12_mayLearn 0 = .ok (.aload_n 1, 1) := by decide +kernel
theorem dX12_mayLearn_1 : decode cX12_mayLearn 1 = .ok (.sipush 470, 3) := by decide +kernel
theorem dX12_mayLearn_4 : decode cX12_mayLearn 4 = .ok (.iaload, 1) := by decide +kernel
theorem dX12_mayLearn_5 : decode cX12_mayLearn 5 = .ok (.ifCond .ne 17, 3) := by decide +kernel
theorem dX12_mayLearn_8 : decode cX12_mayLearn 8 = .ok (.aload_n 0, 1) := by decide +kernel
theorem dX12_mayLearn_9 : decode cX12_mayLearn 9 = .ok (.aload_n 1, 1) := by decide +kernel
theorem dX12_mayLearn_10 : decode cX12_mayLearn 10 = .ok (.invokevirtual 176, 3) := by decide +kernel
theorem dX12_mayLearn_13 : decode cX12_mayLearn 13 = .ok (.bipush (-9), 2) := by decide +kernel
theorem dX12_mayLearn_15 : decode cX12_mayLearn 15 = .ok (.if_icmp .eq 7, 3) := by decide +kernel
theorem dX12_mayLearn_18 : decode cX12_mayLearn 18 = .ok (.iconst 1, 1) := by decide +kernel
theorem dX12_mayLearn_19 : decode cX12_mayLearn 19 = .ok (.goto 4, 3) := by decide +kernel
theorem dX12_mayLearn_22 : decode cX12_mayLearn 22 = .ok (.iconst 0, 1) := by decide +kernel
theorem dX12_mayLearn_23 : decode cX12_mayLearn 23 = .ok (.ireturn, 1) := by decide +kernel
theorem dX12_mayMake_0 : decode cX12_mayMake 0 = .ok (.aload_n 0, 1) := by decide +kernel
theorem dX12_mayMake_1 : decode cX12_mayMake 1 = .ok (.aload_n 1, 1) := by decide +kernel
theorem dX12_mayMake_2 : decode cX12_mayMake 2 = .ok (.invokevirtual 176, 3) := by decide +kernel
theorem dX12_mayMake_5 : decode cX12_mayMake 5 = .ok (.bipush (-9), 2) := by decide +kernel
theorem dX12_mayMake_7 : decode cX12_mayMake 7 = .ok (.if_icmp .ne 25, 3) := by decide +kernel
theorem dX12_mayMake_10 : decode cX12_mayMake 10 = .ok (.aload_n 0, 1) := by decide +kernel
theorem dX12_mayMake_11 : decode cX12_mayMake 11 = .ok (.aload_n 1, 1) := by decide +kernel
theorem dX12_mayMake_12 : decode cX12_mayMake 12 = .ok (.iload_n 2, 1) := by decide +kernel
theorem dX12_mayMake_13 : decode cX12_mayMake 13 = .ok (.invokevirtual 141, 3) := by decide +kernel
theorem dX12_mayMake_16 : decode cX12_mayMake 16 = .ok (.ifCond .ne 16, 3) := by decide +kernel
theorem dX12_mayMake_19 : decode cX12_mayMake 19 = .ok (.aload_n 0, 1) := by decide +kernel
theorem dX12_mayMake_20 : decode cX12_mayMake 20 = .ok (.aload_n 1, 1) := by decide +kernel
theorem dX12_mayMake_21 : decode cX12_mayMake 21 = .ok (.iload_n 2, 1) := by decide +kernel
theorem dX12_mayMake_22 : decode cX12_mayMake 22 = .ok (.invokevirtual 163, 3) := by decide +kernel
theorem dX12_mayMake_25 : decode cX12_mayMake 25 = .ok (.ifCond .ne 7, 3) := by decide +kernel
theorem dX12_mayMake_28 : decode cX12_mayMake 28 = .ok (.iconst 1, 1) := by decide +kernel
theorem dX12_mayMake_29 : decode cX12_mayMake 29 = .ok (.goto 4, 3) := by decide +kernel
theorem dX12_mayMake_32 : decode cX12_mayMake 32 = .ok (.iconst 0, 1) := by decide +kernel
theorem dX12_mayMake_33 : decode cX12_mayMake 33 = .ok (.ireturn, 1) := by decide +kernel
theorem dX12_makeOn_0 : decode cX12_makeOn 0 = .ok (.aload_n 0, 1) := by decide +kernel
theorem dX12_makeOn_1 : decode cX12_makeOn 1 = .ok (.aload_n 1, 1) := by decide +kernel
theorem dX12_makeOn_2 : decode cX12_makeOn 2 = .ok (.iload_n 2, 1) := by decide +kernel
theorem dX12_makeOn_3 : decode cX12_makeOn 3 = .ok (.aload_n 0, 1) := by decide +kernel
theorem dX12_makeOn_4 : decode cX12_makeOn 4 = .ok (.aload_n 1, 1) := by decide +kernel
theorem dX12_makeOn_5 : decode cX12_makeOn 5 = .ok (.invokevirtual 184, 3) := by decide +kernel
theorem dX12_makeOn_8 : decode cX12_makeOn 8 = .ok (.iconst 1, 1) := by decide +kernel
theorem dX12_makeOn_9 : decode cX12_makeOn 9 = .ok (.iadd, 1) := by decide +kernel
theorem dX12_makeOn_10 : decode cX12_makeOn 10 = .ok (.iconst (-1), 1) := by decide +kernel
theorem dX12_makeOn_11 : decode cX12_makeOn 11 = .ok (.invokevirtual 187, 3) := by decide +kernel
theorem dX12_makeOn_14 : decode cX12_makeOn 14 = .ok (.aload_n 0, 1) := by decide +kernel
theorem dX12_makeOn_15 : decode cX12_makeOn 15 = .ok (.aload_n 1, 1) := by decide +kernel
theorem dX12_makeOn_16 : decode cX12_makeOn 16 = .ok (.invokevirtual 191, 3) := by decide +kernel
theorem dX12_makeOn_19 : decode cX12_makeOn 19 = .ok (.return_, 1) := by decide +kernel
theorem dX12_openOf_0 : decode cX12_openOf 0 = .ok (.bipush (-9), 2) := by decide +kernel
theorem dX12_openOf_2 : decode cX12_openOf 2 = .ok (.istore_n 2, 1) := by decide +kernel
theorem dX12_openOf_3 : decode cX12_openOf 3 = .ok (.aload_n 0, 1) := by decide +kernel
theorem dX12_openOf_4 : decode cX12_openOf 4 = .ok (.getfield 65, 3) := by decide +kernel
theorem dX12_openOf_7 : decode cX12_openOf 7 = .ok (.iconst 1, 1) := by decide +kernel
theorem dX12_openOf_8 : decode cX12_openOf 8 = .ok (.isub, 1) := by decide +kernel
theorem dX12_openOf_9 : decode cX12_openOf 9 = .ok (.istore_n 3, 1) := by decide +kernel
theorem dX12_openOf_10 : decode cX12_openOf 10 = .ok (.iload_n 3, 1) := by decide +kernel
theorem dX12_openOf_11 : decode cX12_openOf 11 = .ok (.ifCond .lt 30, 3) := by decide +kernel
theorem dX12_openOf_14 : decode cX12_openOf 14 = .ok (.aload_n 0, 1) := by decide +kernel
theorem dX12_openOf_15 : decode cX12_openOf 15 = .ok (.aload_n 1, 1) := by decide +kernel
theorem dX12_openOf_16 : decode cX12_openOf 16 = .ok (.iload_n 3, 1) := by decide +kernel
theorem dX12_openOf_17 : decode cX12_openOf 17 = .ok (.invokevirtual 123, 3) := by decide +kernel
theorem dX12_openOf_20 : decode cX12_openOf 20 = .ok (.aload_n 0, 1) := by decide +kernel
theorem dX12_openOf_21 : decode cX12_openOf 21 = .ok (.aload_n 1, 1) := by decide +kernel
theorem dX12_openOf_22 : decode cX12_openOf 22 = .ok (.iload_n 3, 1) := by decide +kernel
theorem dX12_openOf_23 : decode cX12_openOf 23 = .ok (.invokevirtual 127, 3) := by decide +kernel
theorem dX12_openOf_26 : decode cX12_openOf 26 = .ok (.if_icmp .ge 7, 3) := by decide +kernel
theorem dX12_openOf_29 : decode cX12_openOf 29 = .ok (.iload_n 3, 1) := by decide +kernel
theorem dX12_openOf_30 : decode cX12_openOf 30 = .ok (.goto 4, 3) := by decide +kernel
theorem dX12_openOf_33 : decode cX12_openOf 33 = .ok (.iload_n 2, 1) := by decide +kernel
theorem dX12_openOf_34 : decode cX12_openOf 34 = .ok (.istore_n 2, 1) := by decide +kernel
theorem dX12_openOf_35 : decode cX12_openOf 35 = .ok (.iinc 3 (-1), 3) := by decide +kernel
theorem dX12_openOf_38 : decode cX12_openOf 38 = .ok (.goto (-28), 3) := by decide +kernel
theorem dX12_openOf_41 : decode cX12_openOf 41 = .ok (.iload_n 2, 1) := by decide +kernel
theorem dX12_openOf_42 : decode cX12_openOf 42 = .ok (.ireturn, 1) := by decide +kernel
theorem dX12_isSolved_0 : decode cX12_isSolved 0 = .ok (.aload_n 0, 1) := by decide +kernel
theorem dX12_isSolved_1 : decode cX12_isSolved 1 = .ok (.aload_n 1, 1) := by decide +kernel
theorem dX12_isSolved_2 : decode cX12_isSolved 2 = .ok (.invokevirtual 176, 3) := by decide +kernel
theorem dX12_isSolved_5 : decode cX12_isSolved 5 = .ok (.bipush (-9), 2) := by decide +kernel
theorem dX12_isSolved_7 : decode cX12_isSolved 7 = .ok (.if_icmp .ne 17, 3) := by decide +kernel
theorem dX12_isSolved_10 : decode cX12_isSolved 10 = .ok (.aload_n 0, 1) := by decide +kernel
theorem dX12_isSolved_11 : decode cX12_isSolved 11 = .ok (.aload_n 1, 1) := by decide +kernel
theorem dX12_isSolved_12 : decode cX12_isSolved 12 = .ok (.invokevirtual 235, 3) := by decide +kernel
theorem dX12_isSolved_15 : decode cX12_isSolved 15 = .ok (.bipush (-9), 2) := by decide +kernel
theorem dX12_isSolved_17 : decode cX12_isSolved 17 = .ok (.if_icmp .ne 7, 3) := by decide +kernel
theorem dX12_isSolved_20 : decode cX12_isSolved 20 = .ok (.iconst 1, 1) := by decide +kernel
theorem dX12_isSolved_21 : decode cX12_isSolved 21 = .ok (.goto 4, 3) := by decide +kernel
theorem dX12_isSolved_24 : decode cX12_isSolved 24 = .ok (.iconst 0, 1) := by decide +kernel
theorem dX12_isSolved_25 : decode cX12_isSolved 25 = .ok (.ireturn, 1) := by decide +kernel
theorem dX12_stepOn_0 : decode cX12_stepOn 0 = .ok (.aload_n 0, 1) := by decide +kernel
theorem dX12_stepOn_1 : decode cX12_stepOn 1 = .ok (.aload_n 1, 1) := by decide +kernel
theorem dX12_stepOn_2 : decode cX12_stepOn 2 = .ok (.invokevirtual 176, 3) := by decide +kernel
theorem dX12_stepOn_5 : decode cX12_stepOn 5 = .ok (.bipush (-9), 2) := by decide +kernel
theorem dX12_stepOn_7 : decode cX12_stepOn 7 = .ok (.if_icmp .eq 12, 3) := by decide +kernel
theorem dX12_stepOn_10 : decode cX12_stepOn 10 = .ok (.aload_n 0, 1) := by decide +kernel
theorem dX12_stepOn_11 : decode cX12_stepOn 11 = .ok (.aload_n 1, 1) := by decide +kernel
theorem dX12_stepOn_12 : decode cX12_stepOn 12 = .ok (.invokevirtual 238, 3) := by decide +kernel
theorem dX12_stepOn_15 : decode cX12_stepOn 15 = .ok (.istore_n 2, 1) := by decide +kernel
theorem dX12_stepOn_16 : decode cX12_stepOn 16 = .ok (.goto 25, 3) := by decide +kernel
theorem dX12_stepOn_19 : decode cX12_stepOn 19 = .ok (.aload_n 0, 1) := by decide +kernel
theorem dX12_stepOn_20 : decode cX12_stepOn 20 = .ok (.aload_n 1, 1) := by decide +kernel
theorem dX12_stepOn_21 : decode cX12_stepOn 21 = .ok (.invokevirtual 235, 3) := by decide +kernel
theorem dX12_stepOn_24 : decode cX12_stepOn 24 = .ok (.istore_n 2, 1) := by decide +kernel
theorem dX12_stepOn_25 : decode cX12_stepOn 25 = .ok (.aload_n 0, 1) := by decide +kernel
theorem dX12_stepOn_26 : decode cX12_stepOn 26 = .ok (.aload_n 1, 1) := by decide +kernel
theorem dX12_stepOn_27 : decode cX12_stepOn 27 = .ok (.iload_n 2, 1) := by decide +kernel
theorem dX12_stepOn_28 : decode cX12_stepOn 28 = .ok (.iconst 1, 1) := by decide +kernel
theorem dX12_stepOn_29 : decode cX12_stepOn 29 = .ok (.aload_n 0, 1) := by decide +kernel
theorem dX12_stepOn_30 : decode cX12_stepOn 30 = .ok (.aload_n 1, 1) := by decide +kernel
theorem dX12_stepOn_31 : decode cX12_stepOn 31 = .ok (.iload_n 2, 1) := by decide +kernel
theorem dX12_stepOn_32 : decode cX12_stepOn 32 = .ok (.invokevirtual 123, 3) := by decide +kernel
theorem dX12_stepOn_35 : decode cX12_stepOn 35 = .ok (.invokestatic 130, 3) := by decide +kernel
theorem dX12_stepOn_38 : decode cX12_stepOn 38 = .ok (.invokevirtual 241, 3) := by decide +kernel
theorem dX12_stepOn_41 : decode cX12_stepOn 41 = .ok (.return_, 1) := by decide +kernel
theorem dX12_layWay_0 : decode cX12_layWay 0 = .ok (.iload_n 1, 1) := by decide +kernel
theorem dX12_layWay_1 : decode cX12_layWay 1 = .ok (.istore_n 2, 1) := by decide +kernel
theorem dX12_layWay_2 : decode cX12_layWay 2 = .ok (.aload_n 0, 1) := by decide +kernel
theorem dX12_layWay_3 : decode cX12_layWay 3 = .ok (.getfield 65, 3) := by decide +kernel
theorem dX12_layWay_6 : decode cX12_layWay 6 = .ok (.iconst 1, 1) := by decide +kernel
theorem dX12_layWay_7 : decode cX12_layWay 7 = .ok (.isub, 1) := by decide +kernel
theorem dX12_layWay_8 : decode cX12_layWay 8 = .ok (.istore_n 3, 1) := by decide +kernel
theorem dX12_layWay_9 : decode cX12_layWay 9 = .ok (.iload_n 3, 1) := by decide +kernel
theorem dX12_layWay_10 : decode cX12_layWay 10 = .ok (.ifCond .lt 36, 3) := by decide +kernel
theorem dX12_layWay_13 : decode cX12_layWay 13 = .ok (.aload_n 0, 1) := by decide +kernel
theorem dX12_layWay_14 : decode cX12_layWay 14 = .ok (.getfield 47, 3) := by decide +kernel
theorem dX12_layWay_17 : decode cX12_layWay 17 = .ok (.iload_n 3, 1) := by decide +kernel
theorem dX12_layWay_18 : decode cX12_layWay 18 = .ok (.iload_n 2, 1) := by decide +kernel
theorem dX12_layWay_19 : decode cX12_layWay 19 = .ok (.aload_n 0, 1) := by decide +kernel
theorem dX12_layWay_20 : decode cX12_layWay 20 = .ok (.getfield 13, 3) := by decide +kernel
theorem dX12_layWay_23 : decode cX12_layWay 23 = .ok (.iload_n 3, 1) := by decide +kernel
theorem dX12_layWay_24 : decode cX12_layWay 24 = .ok (.iaload, 1) := by decide +kernel
theorem dX12_layWay_25 : decode cX12_layWay 25 = .ok (.iconst 1, 1) := by decide +kernel
theorem dX12_layWay_26 : decode cX12_layWay 26 = .ok (.iadd, 1) := by decide +kernel
theorem dX12_layWay_27 : decode cX12_layWay 27 = .ok (.irem, 1) := by decide +kernel
theorem dX12_layWay_28 : decode cX12_layWay 28 = .ok (.iastore, 1) := by decide +kernel
theorem dX12_layWay_29 : decode cX12_layWay 29 = .ok (.iload_n 2, 1) := by decide +kernel
theorem dX12_layWay_30 : decode cX12_layWay 30 = .ok (.aload_n 0, 1) := by decide +kernel
theorem dX12_layWay_31 : decode cX12_layWay 31 = .ok (.getfield 13, 3) := by decide +kernel
theorem dX12_layWay_34 : decode cX12_layWay 34 = .ok (.iload_n 3, 1) := by decide +kernel
theorem dX12_layWay_35 : decode cX12_layWay 35 = .ok (.iaload, 1) := by decide +kernel
theorem dX12_layWay_36 : decode cX12_layWay 36 = .ok (.iconst 1, 1) := by decide +kernel
theorem dX12_layWay_37 : decode cX12_layWay 37 = .ok (.iadd, 1) := by decide +kernel
theorem dX12_layWay_38 : decode cX12_layWay 38 = .ok (.idiv, 1) := by decide +kernel
theorem dX12_layWay_39 : decode cX12_layWay 39 = .ok (.istore_n 2, 1) := by decide +kernel
theorem dX12_layWay_40 : decode cX12_layWay 40 = .ok (.iinc 3 (-1), 3) := by decide +kernel
theorem dX12_layWay_43 : decode cX12_layWay 43 = .ok (.goto (-34), 3) := by decide +kernel
theorem dX12_layWay_46 : decode cX12_layWay 46 = .ok (.iload_n 2, 1) := by decide +kernel
theorem dX12_layWay_47 : decode cX12_layWay 47 = .ok (.ifCond .ne 7, 3) := by decide +kernel
theorem dX12_layWay_50 : decode cX12_layWay 50 = .ok (.iconst 1, 1) := by decide +kernel
theorem dX12_layWay_51 : decode cX12_layWay 51 = .ok (.goto 4, 3) := by decide +kernel
theorem dX12_layWay_54 : decode cX12_layWay 54 = .ok (.iconst 0, 1) := by decide +kernel
theorem dX12_layWay_55 : decode cX12_layWay 55 = .ok (.ireturn, 1) := by decide +kernel
theorem dX12_broken_0 : decode cX12_broken 0 = .ok (.iconst 0, 1) := by decide +kernel
theorem dX12_broken_1 : decode cX12_broken 1 = .ok (.istore_n 1, 1) := by decide +kernel
theorem dX12_broken_2 : decode cX12_broken 2 = .ok (.iconst 0, 1) := by decide +kernel
theorem dX12_broken_3 : decode cX12_broken 3 = .ok (.istore_n 2, 1) := by decide +kernel
theorem dX12_broken_4 : decode cX12_broken 4 = .ok (.iload_n 2, 1) := by decide +kernel
theorem dX12_broken_5 : decode cX12_broken 5 = .ok (.aload_n 0, 1) := by decide +kernel
theorem dX12_broken_6 : decode cX12_broken 6 = .ok (.getfield 145, 3) := by decide +kernel
theorem dX12_broken_9 : decode cX12_broken 9 = .ok (.if_icmp .ge 67, 3) := by decide +kernel
theorem dX12_broken_12 : decode cX12_broken 12 = .ok (.iconst 0, 1) := by decide +kernel
theorem dX12_broken_13 : decode cX12_broken 13 = .ok (.istore_n 3, 1) := by decide +kernel
theorem dX12_broken_14 : decode cX12_broken 14 = .ok (.iconst 0, 1) := by decide +kernel
theorem dX12_broken_15 : decode cX12_broken 15 = .ok (.istore 4, 2) := by decide +kernel
theorem dX12_broken_17 : decode cX12_broken 17 = .ok (.iload 4, 2) := by decide +kernel
theorem dX12_broken_19 : decode cX12_broken 19 = .ok (.aload_n 0, 1) := by decide +kernel
theorem dX12_broken_20 : decode cX12_broken 20 = .ok (.getfield 65, 3) := by decide +kernel
theorem dX12_broken_23 : decode cX12_broken 23 = .ok (.if_icmp .ge 27, 3) := by decide +kernel
theorem dX12_broken_26 : decode cX12_broken 26 = .ok (.iload_n 3, 1) := by decide +kernel
theorem dX12_broken_27 : decode cX12_broken 27 = .ok (.aload_n 0, 1) := by decide +kernel
theorem dX12_broken_28 : decode cX12_broken 28 = .ok (.iload_n 2, 1) := by decide +kernel
theorem dX12_broken_29 : decode cX12_broken 29 = .ok (.iload 4, 2) := by decide +kernel
theorem dX12_broken_31 : decode cX12_broken 31 = .ok (.invokevirtual 134, 3) := by decide +kernel
theorem dX12_broken_34 : decode cX12_broken 34 = .ok (.aload_n 0, 1) := by decide +kernel
theorem dX12_broken_35 : decode cX12_broken 35 = .ok (.getfield 47, 3) := by decide +kernel
theorem dX12_broken_38 : decode cX12_broken 38 = .ok (.iload 4, 2) := by decide +kernel
theorem dX12_broken_40 : decode cX12_broken 40 = .ok (.iaload, 1) := by decide +kernel
theorem dX12_broken_41 : decode cX12_broken 41 = .ok (.imul, 1) := by decide +kernel
theorem dX12_broken_42 : decode cX12_broken 42 = .ok (.iadd, 1) := by decide +kernel
theorem dX12_broken_43 : decode cX12_broken 43 = .ok (.istore_n 3, 1) := by decide +kernel
theorem dX12_broken_44 : decode cX12_broken 44 = .ok (.iinc 4 1, 3) := by decide +kernel
theorem dX12_broken_47 : decode cX12_broken 47 = .ok (.goto (-30), 3) := by decide +kernel
theorem dX12_broken_50 : decode cX12_broken 50 = .ok (.iload_n 1, 1) := by decide +kernel
theorem dX12_broken_51 : decode cX12_broken 51 = .ok (.iload_n 3, 1) := by decide +kernel
theorem dX12_broken_52 : decode cX12_broken 52 = .ok (.aload_n 0, 1) := by decide +kernel
theorem dX12_broken_53 : decode cX12_broken 53 = .ok (.getfield 19, 3) := by decide +kernel
theorem dX12_broken_56 : decode cX12_broken 56 = .ok (.iload_n 2, 1) := by decide +kernel
theorem dX12_broken_57 : decode cX12_broken 57 = .ok (.iaload, 1) := by decide +kernel
theorem dX12_broken_58 : decode cX12_broken 58 = .ok (.if_icmp .le 9, 3) := by decide +kernel
theorem dX12_broken_61 : decode cX12_broken 61 = .ok (.iconst 1, 1) := by decide +kernel
theorem dX12_broken_62 : decode cX12_broken 62 = .ok (.iload_n 2, 1) := by decide +kernel
theorem dX12_broken_63 : decode cX12_broken 63 = .ok (.ishl, 1) := by decide +kernel
theorem dX12_broken_64 : decode cX12_broken 64 = .ok (.goto 4, 3) := by decide +kernel
theorem dX12_broken_67 : decode cX12_broken 67 = .ok (.iconst 0, 1) := by decide +kernel
theorem dX12_broken_68 : decode cX12_broken 68 = .ok (.ior, 1) := by decide +kernel
theorem dX12_broken_69 : decode cX12_broken 69 = .ok (.istore_n 1, 1) := by decide +kernel
theorem dX12_broken_70 : decode cX12_broken 70 = .ok (.iinc 2 1, 3) := by decide +kernel
theorem dX12_broken_73 : decode cX12_broken 73 = .ok (.goto (-69), 3) := by decide +kernel
theorem dX12_broken_76 : decode cX12_broken 76 = .ok (.iload_n 1, 1) := by decide +kernel
theorem dX12_broken_77 : decode cX12_broken 77 = .ok (.ireturn, 1) := by decide +kernel
theorem dX12_isOpen_0 : decode cX12_isOpen 0 = .ok (.iconst 1, 1) := by decide +kernel
theorem dX12_isOpen_1 : decode cX12_isOpen 1 = .ok (.istore_n 1, 1) := by decide +kernel
theorem dX12_isOpen_2 : decode cX12_isOpen 2 = .ok (.iconst 0, 1) := by decide +kernel
theorem dX12_isOpen_3 : decode cX12_isOpen 3 = .ok (.istore_n 2, 1) := by decide +kernel
theorem dX12_isOpen_4 : decode cX12_isOpen 4 = .ok (.iload_n 2, 1) := by decide +kernel
theorem dX12_isOpen_5 : decode cX12_isOpen 5 = .ok (.aload_n 0, 1) := by decide +kernel
theorem dX12_isOpen_6 : decode cX12_isOpen 6 = .ok (.getfield 65, 3) := by decide +kernel
theorem dX12_isOpen_9 : decode cX12_isOpen 9 = .ok (.if_icmp .ge 52, 3) := by decide +kernel
theorem dX12_isOpen_12 : decode cX12_isOpen 12 = .ok (.iload_n 1, 1) := by decide +kernel
theorem dX12_isOpen_13 : decode cX12_isOpen 13 = .ok (.ifCond .eq 40, 3) := by decide +kernel
theorem dX12_isOpen_16 : decode cX12_isOpen 16 = .ok (.aload_n 0, 1) := by decide +kernel
theorem dX12_isOpen_17 : decode cX12_isOpen 17 = .ok (.getfield 47, 3) := by decide +kernel
theorem dX12_isOpen_20 : decode cX12_isOpen 20 = .ok (.iload_n 2, 1) := by decide +kernel
theorem dX12_isOpen_21 : decode cX12_isOpen 21 = .ok (.iaload, 1) := by decide +kernel
theorem dX12_isOpen_22 : decode cX12_isOpen 22 = .ok (.i2l, 1) := by decide +kernel
theorem dX12_isOpen_23 : decode cX12_isOpen 23 = .ok (.aload_n 0, 1) := by decide +kernel
theorem dX12_isOpen_24 : decode cX12_isOpen 24 = .ok (.aload_n 0, 1) := by decide +kernel
theorem dX12_isOpen_25 : decode cX12_isOpen 25 = .ok (.getfield 22, 3) := by decide +kernel
theorem dX12_isOpen_28 : decode cX12_isOpen 28 = .ok (.iload_n 2, 1) := by decide +kernel
theorem dX12_isOpen_29 : decode cX12_isOpen 29 = .ok (.invokevirtual 123, 3) := by decide +kernel
theorem dX12_isOpen_32 : decode cX12_isOpen 32 = .ok (.i2l, 1) := by decide +kernel
theorem dX12_isOpen_33 : decode cX12_isOpen 33 = .ok (.aload_n 0, 1) := by decide +kernel
theorem dX12_isOpen_34 : decode cX12_isOpen 34 = .ok (.aload_n 0, 1) := by decide +kernel
theorem dX12_isOpen_35 : decode cX12_isOpen 35 = .ok (.getfield 22, 3) := by decide +kernel
theorem dX12_isOpen_38 : decode cX12_isOpen 38 = .ok (.iload_n 2, 1) := by decide +kernel
theorem dX12_isOpen_39 : decode cX12_isOpen 39 = .ok (.invokevirtual 127, 3) := by decide +kernel
theorem dX12_isOpen_42 : decode cX12_isOpen 42 = .ok (.i2l, 1) := by decide +kernel
theorem dX12_isOpen_43 : decode cX12_isOpen 43 = .ok (.invokestatic 69, 3) := by decide +kernel
theorem dX12_isOpen_46 : decode cX12_isOpen 46 = .ok (.ifCond .eq 7, 3) := by decide +kernel
theorem dX12_isOpen_49 : decode cX12_isOpen 49 = .ok (.iconst 1, 1) := by decide +kernel
theorem dX12_isOpen_50 : decode cX12_isOpen 50 = .ok (.goto 4, 3) := by decide +kernel
theorem dX12_isOpen_53 : decode cX12_isOpen 53 = .ok (.iconst 0, 1) := by decide +kernel
theorem dX12_isOpen_54 : decode cX12_isOpen 54 = .ok (.istore_n 1, 1) := by decide +kernel
theorem dX12_isOpen_55 : decode cX12_isOpen 55 = .ok (.iinc 2 1, 3) := by decide +kernel
theorem dX12_isOpen_58 : decode cX12_isOpen 58 = .ok (.goto (-54), 3) := by decide +kernel
theorem dX12_isOpen_61 : decode cX12_isOpen 61 = .ok (.iload_n 1, 1) := by decide +kernel
theorem dX12_isOpen_62 : decode cX12_isOpen 62 = .ok (.ireturn, 1) := by decide +kernel
theorem dX12_fits_0 : decode cX12_fits 0 = .ok (.aload_n 0, 1) := by decide +kernel
theorem dX12_fits_1 : decode cX12_fits 1 = .ok (.getfield 47, 3) := by decide +kernel
theorem dX12_fits_4 : decode cX12_fits 4 = .ok (.iload_n 1, 1) := by decide +kernel
theorem dX12_fits_5 : decode cX12_fits 5 = .ok (.bipush 100, 2) := by decide +kernel
theorem dX12_fits_7 : decode cX12_fits 7 = .ok (.idiv, 1) := by decide +kernel
theorem dX12_fits_8 : decode cX12_fits 8 = .ok (.iaload, 1) := by decide +kernel
theorem dX12_fits_9 : decode cX12_fits 9 = .ok (.istore_n 2, 1) := by decide +kernel
theorem dX12_fits_10 : decode cX12_fits 10 = .ok (.iload_n 1, 1) := by decide +kernel
theorem dX12_fits_11 : decode cX12_fits 11 = .ok (.bipush 10, 2) := by decide +kernel
theorem dX12_fits_13 : decode cX12_fits 13 = .ok (.idiv, 1) := by decide +kernel
theorem dX12_fits_14 : decode cX12_fits 14 = .ok (.bipush 10, 2) := by decide +kernel
theorem dX12_fits_16 : decode cX12_fits 16 = .ok (.irem, 1) := by decide +kernel
theorem dX12_fits_17 : decode cX12_fits 17 = .ok (.ifCond .ne 19, 3) := by decide +kernel
theorem dX12_fits_20 : decode cX12_fits 20 = .ok (.iload_n 2, 1) := by decide +kernel
theorem dX12_fits_21 : decode cX12_fits 21 = .ok (.iload_n 1, 1) := by decide +kernel
theorem dX12_fits_22 : decode cX12_fits 22 = .ok (.bipush 10, 2) := by decide +kernel
theorem dX12_fits_24 : decode cX12_fits 24 = .ok (.irem, 1) := by decide +kernel
theorem dX12_fits_25 : decode cX12_fits 25 = .ok (.if_icmp .lt 7, 3) := by decide +kernel
theorem dX12_fits_28 : decode cX12_fits 28 = .ok (.iconst 1, 1) := by decide +kernel
theorem dX12_fits_29 : decode cX12_fits 29 = .ok (.goto 20, 3) := by decide +kernel
theorem dX12_fits_32 : decode cX12_fits 32 = .ok (.iconst 0, 1) := by decide +kernel
theorem dX12_fits_33 : decode cX12_fits 33 = .ok (.goto 16, 3) := by decide +kernel
theorem dX12_fits_36 : decode cX12_fits 36 = .ok (.iload_n 2, 1) := by decide +kernel
theorem dX12_fits_37 : decode cX12_fits 37 = .ok (.iload_n 1, 1) := by decide +kernel
theorem dX12_fits_38 : decode cX12_fits 38 = .ok (.bipush 10, 2) := by decide +kernel
theorem dX12_fits_40 : decode cX12_fits 40 = .ok (.irem, 1) := by decide +kernel
theorem dX12_fits_41 : decode cX12_fits 41 = .ok (.if_icmp .gt 7, 3) := by decide +kernel
theorem dX12_fits_44 : decode cX12_fits 44 = .ok (.iconst 1, 1) := by decide +kernel
theorem dX12_fits_45 : decode cX12_fits 45 = .ok (.goto 4, 3) := by decide +kernel
theorem dX12_fits_48 : decode cX12_fits 48 = .ok (.iconst 0, 1) := by decide +kernel
theorem dX12_fits_49 : decode cX12_fits 49 = .ok (.ireturn, 1) := by decide +kernel
theorem dX12_isSeen_0 : decode cX12_isSeen 0 = .ok (.iconst 1, 1) := by decide +kernel
theorem dX12_isSeen_1 : decode cX12_isSeen 1 = .ok (.istore_n 1, 1) := by decide +kernel
theorem dX12_isSeen_2 : decode cX12_isSeen 2 = .ok (.iconst 0, 1) := by decide +kernel
theorem dX12_isSeen_3 : decode cX12_isSeen 3 = .ok (.istore_n 2, 1) := by decide +kernel
theorem dX12_isSeen_4 : decode cX12_isSeen 4 = .ok (.iload_n 2, 1) := by decide +kernel
theorem dX12_isSeen_5 : decode cX12_isSeen 5 = .ok (.aload_n 0, 1) := by decide +kernel
theorem dX12_isSeen_6 : decode cX12_isSeen 6 = .ok (.getfield 244, 3) := by decide +kernel
theorem dX12_isSeen_9 : decode cX12_isSeen 9 = .ok (.if_icmp .ge 63, 3) := by decide +kernel
theorem dX12_isSeen_12 : decode cX12_isSeen 12 = .ok (.iload_n 1, 1) := by decide +kernel
theorem dX12_isSeen_13 : decode cX12_isSeen 13 = .ok (.ifCond .eq 51, 3) := by decide +kernel
theorem dX12_isSeen_16 : decode cX12_isSeen 16 = .ok (.aload_n 0, 1) := by decide +kernel
theorem dX12_isSeen_17 : decode cX12_isSeen 17 = .ok (.aload_n 0, 1) := by decide +kernel
theorem dX12_isSeen_18 : decode cX12_isSeen 18 = .ok (.getfield 38, 3) := by decide +kernel
theorem dX12_isSeen_21 : decode cX12_isSeen 21 = .ok (.iload_n 2, 1) := by decide +kernel
theorem dX12_isSeen_22 : decode cX12_isSeen 22 = .ok (.iaload, 1) := by decide +kernel
theorem dX12_isSeen_23 : decode cX12_isSeen 23 = .ok (.bipush 100, 2) := by decide +kernel
theorem dX12_isSeen_25 : decode cX12_isSeen 25 = .ok (.idiv, 1) := by decide +kernel
theorem dX12_isSeen_26 : decode cX12_isSeen 26 = .ok (.invokevirtual 247, 3) := by decide +kernel
theorem dX12_isSeen_29 : decode cX12_isSeen 29 = .ok (.ifCond .eq 31, 3) := by decide +kernel
theorem dX12_isSeen_32 : decode cX12_isSeen 32 = .ok (.aload_n 0, 1) := by decide +kernel
theorem dX12_isSeen_33 : decode cX12_isSeen 33 = .ok (.aload_n 0, 1) := by decide +kernel
theorem dX12_isSeen_34 : decode cX12_isSeen 34 = .ok (.getfield 38, 3) := by decide +kernel
theorem dX12_isSeen_37 : decode cX12_isSeen 37 = .ok (.iload_n 2, 1) := by decide +kernel
theorem dX12_isSeen_38 : decode cX12_isSeen 38 = .ok (.iaload, 1) := by decide +kernel
theorem dX12_isSeen_39 : decode cX12_isSeen 39 = .ok (.invokevirtual 250, 3) := by decide +kernel
theorem dX12_isSeen_42 : decode cX12_isSeen 42 = .ok (.aload_n 0, 1) := by decide +kernel
theorem dX12_isSeen_43 : decode cX12_isSeen 43 = .ok (.getfield 41, 3) := by decide +kernel
theorem dX12_isSeen_46 : decode cX12_isSeen 46 = .ok (.iload_n 2, 1) := by decide +kernel
theorem dX12_isSeen_47 : decode cX12_isSeen 47 = .ok (.iaload, 1) := by decide +kernel
theorem dX12_isSeen_48 : decode cX12_isSeen 48 = .ok (.iconst 1, 1) := by decide +kernel
theorem dX12_isSeen_49 : decode cX12_isSeen 49 = .ok (.if_icmp .ne 7, 3) := by decide +kernel
theorem dX12_isSeen_52 : decode cX12_isSeen 52 = .ok (.iconst 1, 1) := by decide +kernel
theorem dX12_isSeen_53 : decode cX12_isSeen 53 = .ok (.goto 4, 3) := by decide +kernel
theorem dX12_isSeen_56 : decode cX12_isSeen 56 = .ok (.iconst 0, 1) := by decide +kernel
theorem dX12_isSeen_57 : decode cX12_isSeen 57 = .ok (.if_icmp .ne 7, 3) := by decide +kernel
theorem dX12_isSeen_60 : decode cX12_isSeen 60 = .ok (.iconst 1, 1) := by decide +kernel
theorem dX12_isSeen_61 : decode cX12_isSeen 61 = .ok (.goto 4, 3) := by decide +kernel
theorem dX12_isSeen_64 : decode cX12_isSeen 64 = .ok (.iconst 0, 1) := by decide +kernel
theorem dX12_isSeen_65 : decode cX12_isSeen 65 = .ok (.istore_n 1, 1) := by decide +kernel
theorem dX12_isSeen_66 : decode cX12_isSeen 66 = .ok (.iinc 2 1, 3) := by decide +kernel
theorem dX12_isSeen_69 : decode cX12_isSeen 69 = .ok (.goto (-65), 3) := by decide +kernel
theorem dX12_isSeen_72 : decode cX12_isSeen 72 = .ok (.iload_n 1, 1) := by decide +kernel
theorem dX12_isSeen_73 : decode cX12_isSeen 73 = .ok (.ireturn, 1) := by decide +kernel
theorem dX12_count_0 : decode cX12_count 0 = .ok (.iconst 0, 1) := by decide +kernel
theorem dX12_count_1 : decode cX12_count 1 = .ok (.istore_n 2, 1) := by decide +kernel
theorem dX12_count_2 : decode cX12_count 2 = .ok (.iconst 0, 1) := by decide +kernel
theorem dX12_count_3 : decode cX12_count 3 = .ok (.istore_n 3, 1) := by decide +kernel
theorem dX12_count_4 : decode cX12_count 4 = .ok (.aload_n 0, 1) := by decide +kernel
theorem dX12_count_5 : decode cX12_count 5 = .ok (.iload_n 3, 1) := by decide +kernel
theorem dX12_count_6 : decode cX12_count 6 = .ok (.invokevirtual 253, 3) := by decide +kernel
theorem dX12_count_9 : decode cX12_count 9 = .ok (.ifCond .eq 62, 3) := by decide +kernel
theorem dX12_count_12 : decode cX12_count 12 = .ok (.aload_n 0, 1) := by decide +kernel
theorem dX12_count_13 : decode cX12_count 13 = .ok (.invokevirtual 256, 3) := by decide +kernel
theorem dX12_count_16 : decode cX12_count 16 = .ok (.ifCond .ne 33, 3) := by decide +kernel
theorem dX12_count_19 : decode cX12_count 19 = .ok (.iload_n 1, 1) := by decide +kernel
theorem dX12_count_20 : decode cX12_count 20 = .ok (.ifCond .eq 25, 3) := by decide +kernel
theorem dX12_count_23 : decode cX12_count 23 = .ok (.iload_n 1, 1) := by decide +kernel
theorem dX12_count_24 : decode cX12_count 24 = .ok (.iconst 1, 1) := by decide +kernel
theorem dX12_count_25 : decode cX12_count 25 = .ok (.if_icmp .ne 13, 3) := by decide +kernel
theorem dX12_count_28 : decode cX12_count 28 = .ok (.aload_n 0, 1) := by decide +kernel
theorem dX12_count_29 : decode cX12_count 29 = .ok (.invokevirtual 259, 3) := by decide +kernel
theorem dX12_count_32 : decode cX12_count 32 = .ok (.ifCond .eq 17, 3) := by decide +kernel
theorem dX12_count_35 : decode cX12_count 35 = .ok (.goto 10, 3) := by decide +kernel
theorem dX12_count_38 : decode cX12_count 38 = .ok (.aload_n 0, 1) := by decide +kernel
theorem dX12_count_39 : decode cX12_count 39 = .ok (.invokevirtual 263, 3) := by decide +kernel
theorem dX12_count_42 : decode cX12_count 42 = .ok (.ifCond .eq 7, 3) := by decide +kernel
theorem dX12_count_45 : decode cX12_count 45 = .ok (.iconst 1, 1) := by decide +kernel
theorem dX12_count_46 : decode cX12_count 46 = .ok (.goto 4, 3) := by decide +kernel
theorem dX12_count_49 : decode cX12_count 49 = .ok (.iconst 0, 1) := by decide +kernel
theorem dX12_count_50 : decode cX12_count 50 = .ok (.istore 4, 2) := by decide +kernel
theorem dX12_count_52 : decode cX12_count 52 = .ok (.iload_n 2, 1) := by decide +kernel
theorem dX12_count_53 : decode cX12_count 53 = .ok (.iload 4, 2) := by decide +kernel
theorem dX12_count_55 : decode cX12_count 55 = .ok (.ifCond .eq 7, 3) := by decide +kernel
theorem dX12_count_58 : decode cX12_count 58 = .ok (.iconst 1, 1) := by decide +kernel
theorem dX12_count_59 : decode cX12_count 59 = .ok (.goto 4, 3) := by decide +kernel
theorem dX12_count_62 : decode cX12_count 62 = .ok (.iconst 0, 1) := by decide +kernel
theorem dX12_count_63 : decode cX12_count 63 = .ok (.iadd, 1) := by decide +kernel
theorem dX12_count_64 : decode cX12_count 64 = .ok (.istore_n 2, 1) := by decide +kernel
theorem dX12_count_65 : decode cX12_count 65 = .ok (.iinc 3 1, 3) := by decide +kernel
theorem dX12_count_68 : decode cX12_count 68 = .ok (.goto (-64), 3) := by decide +kernel
theorem dX12_count_71 : decode cX12_count 71 = .ok (.iload_n 2, 1) := by decide +kernel
theorem dX12_count_72 : decode cX12_count 72 = .ok (.ireturn, 1) := by decide +kernel
theorem dX12_leastOfAll_0 : decode cX12_leastOfAll 0 = .ok (.bipush (-9), 2) := by decide +kernel
theorem dX12_leastOfAll_2 : decode cX12_leastOfAll 2 = .ok (.istore_n 2, 1) := by decide +kernel
theorem dX12_leastOfAll_3 : decode cX12_leastOfAll 3 = .ok (.iconst 0, 1) := by decide +kernel
theorem dX12_leastOfAll_4 : decode cX12_leastOfAll 4 = .ok (.istore_n 3, 1) := by decide +kernel
theorem dX12_leastOfAll_5 : decode cX12_leastOfAll 5 = .ok (.aload_n 0, 1) := by decide +kernel
theorem dX12_leastOfAll_6 : decode cX12_leastOfAll 6 = .ok (.iload_n 3, 1) := by decide +kernel
theorem dX12_leastOfAll_7 : decode cX12_leastOfAll 7 = .ok (.invokevirtual 253, 3) := by decide +kernel
theorem dX12_leastOfAll_10 : decode cX12_leastOfAll 10 = .ok (.ifCond .eq 43, 3) := by decide +kernel
theorem dX12_leastOfAll_13 : decode cX12_leastOfAll 13 = .ok (.aload_n 0, 1) := by decide +kernel
theorem dX12_leastOfAll_14 : decode cX12_leastOfAll 14 = .ok (.invokevirtual 256, 3) := by decide +kernel
theorem dX12_leastOfAll_17 : decode cX12_leastOfAll 17 = .ok (.ifCond .ne 28, 3) := by decide +kernel
theorem dX12_leastOfAll_20 : decode cX12_leastOfAll 20 = .ok (.iload_n 2, 1) := by decide +kernel
theorem dX12_leastOfAll_21 : decode cX12_leastOfAll 21 = .ok (.bipush (-9), 2) := by decide +kernel
theorem dX12_leastOfAll_23 : decode cX12_leastOfAll 23 = .ok (.if_icmp .eq 13, 3) := by decide +kernel
theorem dX12_leastOfAll_26 : decode cX12_leastOfAll 26 = .ok (.aload_n 0, 1) := by decide +kernel
theorem dX12_leastOfAll_27 : decode cX12_leastOfAll 27 = .ok (.getfield 47, 3) := by decide +kernel
theorem dX12_leastOfAll_30 : decode cX12_leastOfAll 30 = .ok (.iload_n 1, 1) := by decide +kernel
theorem dX12_leastOfAll_31 : decode cX12_leastOfAll 31 = .ok (.iaload, 1) := by decide +kernel
theorem dX12_leastOfAll_32 : decode cX12_leastOfAll 32 = .ok (.iload_n 2, 1) := by decide +kernel
theorem dX12_leastOfAll_33 : decode cX12_leastOfAll 33 = .ok (.if_icmp .ge 12, 3) := by decide +kernel
theorem dX12_leastOfAll_36 : decode cX12_leastOfAll 36 = .ok (.aload_n 0, 1) := by decide +kernel
theorem dX12_leastOfAll_37 : decode cX12_leastOfAll 37 = .ok (.getfield 47, 3) := by decide +kernel
theorem dX12_leastOfAll_40 : decode cX12_leastOfAll 40 = .ok (.iload_n 1, 1) := by decide +kernel
theorem dX12_leastOfAll_41 : decode cX12_leastOfAll 41 = .ok (.iaload, 1) := by decide +kernel
theorem dX12_leastOfAll_42 : decode cX12_leastOfAll 42 = .ok (.goto 4, 3) := by decide +kernel
theorem dX12_leastOfAll_45 : decode cX12_leastOfAll 45 = .ok (.iload_n 2, 1) := by decide +kernel
theorem dX12_leastOfAll_46 : decode cX12_leastOfAll 46 = .ok (.istore_n 2, 1) := by decide +kernel
theorem dX12_leastOfAll_47 : decode cX12_leastOfAll 47 = .ok (.iinc 3 1, 3) := by decide +kernel
theorem dX12_leastOfAll_50 : decode cX12_leastOfAll 50 = .ok (.goto (-45), 3) := by decide +kernel
theorem dX12_leastOfAll_53 : decode cX12_leastOfAll 53 = .ok (.iload_n 2, 1) := by decide +kernel
theorem dX12_leastOfAll_54 : decode cX12_leastOfAll 54 = .ok (.ireturn, 1) := by decide +kernel
theorem dX12_about_0 : decode cX12_about 0 = .ok (.iload_n 1, 1) := by decide +kernel
theorem dX12_about_1 : decode cX12_about 1 = .ok (.tableswitch 163 0 12 #[67, 72, 77, 84, 93, 102, 110, 119, 136, 142, 148, 153, 158], 67) := by decide +kernel
theorem dX12_about_68 : decode cX12_about 68 = .ok (.aload_n 0, 1) := by decide +kernel
theorem dX12_about_69 : decode cX12_about 69 = .ok (.getfield 65, 3) := by decide +kernel
theorem dX12_about_72 : decode cX12_about 72 = .ok (.ireturn, 1) := by decide +kernel
theorem dX12_about_73 : decode cX12_about 73 = .ok (.aload_n 0, 1) := by decide +kernel
theorem dX12_about_74 : decode cX12_about 74 = .ok (.getfield 145, 3) := by decide +kernel
theorem dX12_about_77 : decode cX12_about 77 = .ok (.ireturn, 1) := by decide +kernel
theorem dX12_about_78 : decode cX12_about 78 = .ok (.aload_n 0, 1) := by decide +kernel
theorem dX12_about_79 : decode cX12_about 79 = .ok (.getfield 22, 3) := by decide +kernel
theorem dX12_about_82 : decode cX12_about 82 = .ok (.iconst 0, 1) := by decide +kernel
theorem dX12_about_83 : decode cX12_about 83 = .ok (.iaload, 1) := by decide +kernel
theorem dX12_about_84 : decode cX12_about 84 = .ok (.ireturn, 1) := by decide +kernel
theorem dX12_about_85 : decode cX12_about 85 = .ok (.aload_n 0, 1) := by decide +kernel
theorem dX12_about_86 : decode cX12_about 86 = .ok (.aload_n 0, 1) := by decide +kernel
theorem dX12_about_87 : decode cX12_about 87 = .ok (.getfield 22, 3) := by decide +kernel
theorem dX12_about_90 : decode cX12_about 90 = .ok (.invokevirtual 184, 3) := by decide +kernel
theorem dX12_about_93 : decode cX12_about 93 = .ok (.ireturn, 1) := by decide +kernel
theorem dX12_about_94 : decode cX12_about 94 = .ok (.aload_n 0, 1) := by decide +kernel
theorem dX12_about_95 : decode cX12_about 95 = .ok (.aload_n 0, 1) := by decide +kernel
theorem dX12_about_96 : decode cX12_about 96 = .ok (.getfield 22, 3) := by decide +kernel
theorem dX12_about_99 : decode cX12_about 99 = .ok (.invokevirtual 176, 3) := by decide +kernel
theorem dX12_about_102 : decode cX12_about 102 = .ok (.ireturn, 1) := by decide +kernel
theorem dX12_about_103 : decode cX12_about 103 = .ok (.aload_n 0, 1) := by decide +kernel
theorem dX12_about_104 : decode cX12_about 104 = .ok (.getfield 22, 3) := by decide +kernel
theorem dX12_about_107 : decode cX12_about 107 = .ok (.bipush 109, 2) := by decide +kernel
theorem dX12_about_109 : decode cX12_about 109 = .ok (.iaload, 1) := by decide +kernel
theorem dX12_about_110 : decode cX12_about 110 = .ok (.ireturn, 1) := by decide +kernel
theorem dX12_about_111 : decode cX12_about 111 = .ok (.aload_n 0, 1) := by decide +kernel
theorem dX12_about_112 : decode cX12_about 112 = .ok (.getfield 22, 3) := by decide +kernel
theorem dX12_about_115 : decode cX12_about 115 = .ok (.sipush 470, 3) := by decide +kernel
theorem dX12_about_118 : decode cX12_about 118 = .ok (.iaload, 1) := by decide +kernel
theorem dX12_about_119 : decode cX12_about 119 = .ok (.ireturn, 1) := by decide +kernel
theorem dX12_about_120 : decode cX12_about 120 = .ok (.aload_n 0, 1) := by decide +kernel
theorem dX12_about_121 : decode cX12_about 121 = .ok (.aload_n 0, 1) := by decide +kernel
theorem dX12_about_122 : decode cX12_about 122 = .ok (.getfield 22, 3) := by decide +kernel
theorem dX12_about_125 : decode cX12_about 125 = .ok (.invokevirtual 266, 3) := by decide +kernel
theorem dX12_about_128 : decode cX12_about 128 = .ok (.ifCond .eq 7, 3) := by decide +kernel
theorem dX12_about_131 : decode cX12_about 131 = .ok (.iconst 1, 1) := by decide +kernel
theorem dX12_about_132 : decode cX12_about 132 = .ok (.goto 4, 3) := by decide +kernel
theorem dX12_about_135 : decode cX12_about 135 = .ok (.iconst 0, 1) := by decide +kernel
theorem dX12_about_136 : decode cX12_about 136 = .ok (.ireturn, 1) := by decide +kernel
theorem dX12_about_137 : decode cX12_about 137 = .ok (.aload_n 0, 1) := by decide +kernel
theorem dX12_about_138 : decode cX12_about 138 = .ok (.iconst 0, 1) := by decide +kernel
theorem dX12_about_139 : decode cX12_about 139 = .ok (.invokevirtual 269, 3) := by decide +kernel
theorem dX12_about_142 : decode cX12_about 142 = .ok (.ireturn, 1) := by decide +kernel
theorem dX12_about_143 : decode cX12_about 143 = .ok (.aload_n 0, 1) := by decide +kernel
theorem dX12_about_144 : decode cX12_about 144 = .ok (.iconst 1, 1) := by decide +kernel
theorem dX12_about_145 : decode cX12_about 145 = .ok (.invokevirtual 269, 3) := by decide +kernel
theorem dX12_about_148 : decode cX12_about 148 = .ok (.ireturn, 1) := by decide +kernel
theorem dX12_about_149 : decode cX12_about 149 = .ok (.aload_n 0, 1) := by decide +kernel
theorem dX12_about_150 : decode cX12_about 150 = .ok (.getfield 195, 3) := by decide +kernel
theorem dX12_about_153 : decode cX12_about 153 = .ok (.ireturn, 1) := by decide +kernel
theorem dX12_about_154 : decode cX12_about 154 = .ok (.aload_n 0, 1) := by decide +kernel
theorem dX12_about_155 : decode cX12_about 155 = .ok (.getfield 244, 3) := by decide +kernel
theorem dX12_about_158 : decode cX12_about 158 = .ok (.ireturn, 1) := by decide +kernel
theorem dX12_about_159 : decode cX12_about 159 = .ok (.aload_n 0, 1) := by decide +kernel
theorem dX12_about_160 : decode cX12_about 160 = .ok (.getfield 75, 3) := by decide +kernel
theorem dX12_about_163 : decode cX12_about 163 = .ok (.ireturn, 1) := by decide +kernel
theorem dX12_about_164 : decode cX12_about 164 = .ok (.bipush (-2), 2) := by decide +kernel
theorem dX12_about_166 : decode cX12_about 166 = .ok (.ireturn, 1) := by decide +kernel
theorem dX12_number_0 : decode cX12_number 0 = .ok (.aload_n 0, 1) := by decide +kernel
theorem dX12_number_1 : decode cX12_number 1 = .ok (.iload_n 1, 1) := by decide +kernel
theorem dX12_number_2 : decode cX12_number 2 = .ok (.invokevirtual 247, 3) := by decide +kernel
theorem dX12_number_5 : decode cX12_number 5 = .ok (.ifCond .ne 5, 3) := by decide +kernel
theorem dX12_number_8 : decode cX12_number 8 = .ok (.iconst (-1), 1) := by decide +kernel
theorem dX12_number_9 : decode cX12_number 9 = .ok (.ireturn, 1) := by decide +kernel
theorem dX12_number_10 : decode cX12_number 10 = .ok (.iload_n 2, 1) := by decide +kernel
theorem dX12_number_11 : decode cX12_number 11 = .ok (.tableswitch 62 0 3 #[29, 39, 49, 56], 29) := by decide +kernel
theorem dX12_number_40 : decode cX12_number 40 = .ok (.aload_n 0, 1) := by decide +kernel
theorem dX12_number_41 : decode cX12_number 41 = .ok (.aload_n 0, 1) := by decide +kernel
theorem dX12_number_42 : decode cX12_number 42 = .ok (.getfield 22, 3) := by decide +kernel
theorem dX12_number_45 : decode cX12_number 45 = .ok (.iload_n 1, 1) := by decide +kernel
theorem dX12_number_46 : decode cX12_number 46 = .ok (.invokevirtual 123, 3) := by decide +kernel
theorem dX12_number_49 : decode cX12_number 49 = .ok (.ireturn, 1) := by decide +kernel
theorem dX12_number_50 : decode cX12_number 50 = .ok (.aload_n 0, 1) := by decide +kernel
theorem dX12_number_51 : decode cX12_number 51 = .ok (.aload_n 0, 1) := by decide +kernel
theorem dX12_number_52 : decode cX12_number 52 = .ok (.getfield 22, 3) := by decide +kernel
theorem dX12_number_55 : decode cX12_number 55 = .ok (.iload_n 1, 1) := by decide +kernel
theorem dX12_number_56 : decode cX12_number 56 = .ok (.invokevirtual 127, 3) := by decide +kernel
theorem dX12_number_59 : decode cX12_number 59 = .ok (.ireturn, 1) := by decide +kernel
theorem dX12_number_60 : decode cX12_number 60 = .ok (.aload_n 0, 1) := by decide +kernel
theorem dX12_number_61 : decode cX12_number 61 = .ok (.getfield 13, 3) := by decide +kernel
theorem dX12_number_64 : decode cX12_number 64 = .ok (.iload_n 1, 1) := by decide +kernel
theorem dX12_number_65 : decode cX12_number 65 = .ok (.iaload, 1) := by decide +kernel
theorem dX12_number_66 : decode cX12_number 66 = .ok (.ireturn, 1) := by decide +kernel
theorem dX12_number_67 : decode cX12_number 67 = .ok (.aload_n 0, 1) := by decide +kernel
theorem dX12_number_68 : decode cX12_number 68 = .ok (.iload_n 1, 1) := by decide +kernel
theorem dX12_number_69 : decode cX12_number 69 = .ok (.invokevirtual 272, 3) := by decide +kernel
theorem dX12_number_72 : decode cX12_number 72 = .ok (.ireturn, 1) := by decide +kernel
theorem dX12_number_73 : decode cX12_number 73 = .ok (.bipush (-2), 2) := by decide +kernel
theorem dX12_number_75 : decode cX12_number 75 = .ok (.ireturn, 1) := by decide +kernel
theorem dX12_rule_0 : decode cX12_rule 0 = .ok (.iload_n 1, 1) := by decide +kernel
theorem dX12_rule_1 : decode cX12_rule 1 = .ok (.i2l, 1) := by decide +kernel
theorem dX12_rule_2 : decode cX12_rule 2 = .ok (.lconst 0, 1) := by decide +kernel
theorem dX12_rule_3 : decode cX12_rule 3 = .ok (.aload_n 0, 1) := by decide +kernel
theorem dX12_rule_4 : decode cX12_rule 4 = .ok (.getfield 145, 3) := by decide +kernel
theorem dX12_rule_7 : decode cX12_rule 7 = .ok (.iconst 1, 1) := by decide +kernel
theorem dX12_rule_8 : decode cX12_rule 8 = .ok (.isub, 1) := by decide +kernel
theorem dX12_rule_9 : decode cX12_rule 9 = .ok (.i2l, 1) := by decide +kernel
theorem dX12_rule_10 : decode cX12_rule 10 = .ok (.invokestatic 69, 3) := by decide +kernel
theorem dX12_rule_13 : decode cX12_rule 13 = .ok (.ifCond .ne 5, 3) := by decide +kernel
theorem dX12_rule_16 : decode cX12_rule 16 = .ok (.iconst (-1), 1) := by decide +kernel
theorem dX12_rule_17 : decode cX12_rule 17 = .ok (.ireturn, 1) := by decide +kernel
theorem dX12_rule_18 : decode cX12_rule 18 = .ok (.aload_n 0, 1) := by decide +kernel
theorem dX12_rule_19 : decode cX12_rule 19 = .ok (.iload_n 2, 1) := by decide +kernel
theorem dX12_rule_20 : decode cX12_rule 20 = .ok (.invokevirtual 247, 3) := by decide +kernel
theorem dX12_rule_23 : decode cX12_rule 23 = .ok (.ifCond .eq 13, 3) := by decide +kernel
theorem dX12_rule_26 : decode cX12_rule 26 = .ok (.aload_n 0, 1) := by decide +kernel
theorem dX12_rule_27 : decode cX12_rule 27 = .ok (.iload_n 1, 1) := by decide +kernel
theorem dX12_rule_28 : decode cX12_rule 28 = .ok (.iload_n 2, 1) := by decide +kernel
theorem dX12_rule_29 : decode cX12_rule 29 = .ok (.invokevirtual 134, 3) := by decide +kernel
theorem dX12_rule_32 : decode cX12_rule 32 = .ok (.bipush 10, 2) := by decide +kernel
theorem dX12_rule_34 : decode cX12_rule 34 = .ok (.iadd, 1) := by decide +kernel
theorem dX12_rule_35 : decode cX12_rule 35 = .ok (.ireturn, 1) := by decide +kernel
theorem dX12_rule_36 : decode cX12_rule 36 = .ok (.iload_n 2, 1) := by decide +kernel
theorem dX12_rule_37 : decode cX12_rule 37 = .ok (.iconst 4, 1) := by decide +kernel
theorem dX12_rule_38 : decode cX12_rule 38 = .ok (.if_icmp .ne 15, 3) := by decide +kernel
theorem dX12_rule_41 : decode cX12_rule 41 = .ok (.aload_n 0, 1) := by decide +kernel
theorem dX12_rule_42 : decode cX12_rule 42 = .ok (.getfield 19, 3) := by decide +kernel
theorem dX12_rule_45 : decode cX12_rule 45 = .ok (.iload_n 1, 1) := by decide +kernel
theorem dX12_rule_46 : decode cX12_rule 46 = .ok (.iaload, 1) := by decide +kernel
theorem dX12_rule_47 : decode cX12_rule 47 = .ok (.bipush 100, 2) := by decide +kernel
theorem dX12_rule_49 : decode cX12_rule 49 = .ok (.iadd, 1) := by decide +kernel
theorem dX12_rule_50 : decode cX12_rule 50 = .ok (.goto 26, 3) := by decide +kernel
theorem dX12_rule_53 : decode cX12_rule 53 = .ok (.iload_n 2, 1) := by decide +kernel
theorem dX12_rule_54 : decode cX12_rule 54 = .ok (.iconst 5, 1) := by decide +kernel
theorem dX12_rule_55 : decode cX12_rule 55 = .ok (.if_icmp .ne 19, 3) := by decide +kernel
theorem dX12_rule_58 : decode cX12_rule 58 = .ok (.aload_n 0, 1) := by decide +kernel
theorem dX12_rule_59 : decode cX12_rule 59 = .ok (.aload_n 0, 1) := by decide +kernel
theorem dX12_rule_60 : decode cX12_rule 60 = .ok (.getfield 22, 3) := by decide +kernel
theorem dX12_rule_63 : decode cX12_rule 63 = .ok (.iload_n 1, 1) := by decide +kernel
theorem dX12_rule_64 : decode cX12_rule 64 = .ok (.invokevirtual 148, 3) := by decide +kernel
theorem dX12_rule_67 : decode cX12_rule 67 = .ok (.sipush 1000, 3) := by decide +kernel
theorem dX12_rule_70 : decode cX12_rule 70 = .ok (.iadd, 1) := by decide +kernel
theorem dX12_rule_71 : decode cX12_rule 71 = .ok (.goto 5, 3) := by decide +kernel
theorem dX12_rule_74 : decode cX12_rule 74 = .ok (.bipush (-2), 2) := by decide +kernel
theorem dX12_rule_76 : decode cX12_rule 76 = .ok (.ireturn, 1) := by decide +kernel
theorem dX12_mark_0 : decode cX12_mark 0 = .ok (.iload_n 2, 1) := by decide +kernel
theorem dX12_mark_1 : decode cX12_mark 1 = .ok (.i2l, 1) := by decide +kernel
theorem dX12_mark_2 : decode cX12_mark 2 = .ok (.lconst 0, 1) := by decide +kernel
theorem dX12_mark_3 : decode cX12_mark 3 = .ok (.ldc2_w 275, 3) := by decide +kernel
theorem dX12_mark_6 : decode cX12_mark 6 = .ok (.invokestatic 69, 3) := by decide +kernel
theorem dX12_mark_9 : decode cX12_mark 9 = .ok (.ifCond .ne 6, 3) := by decide +kernel
theorem dX12_mark_12 : decode cX12_mark 12 = .ok (.bipush (-2), 2) := by decide +kernel
theorem dX12_mark_14 : decode cX12_mark 14 = .ok (.ireturn, 1) := by decide +kernel
theorem dX12_mark_15 : decode cX12_mark 15 = .ok (.iload_n 1, 1) := by decide +kernel
theorem dX12_mark_16 : decode cX12_mark 16 = .ok (.i2l, 1) := by decide +kernel
theorem dX12_mark_17 : decode cX12_mark 17 = .ok (.lconst 0, 1) := by decide +kernel
theorem dX12_mark_18 : decode cX12_mark 18 = .ok (.aload_n 0, 1) := by decide +kernel
theorem dX12_mark_19 : decode cX12_mark 19 = .ok (.getfield 22, 3) := by decide +kernel
theorem dX12_mark_22 : decode cX12_mark 22 = .ok (.iconst 0, 1) := by decide +kernel
theorem dX12_mark_23 : decode cX12_mark 23 = .ok (.iaload, 1) := by decide +kernel
theorem dX12_mark_24 : decode cX12_mark 24 = .ok (.iconst 1, 1) := by decide +kernel
theorem dX12_mark_25 : decode cX12_mark 25 = .ok (.isub, 1) := by decide +kernel
theorem dX12_mark_26 : decode cX12_mark 26 = .ok (.i2l, 1) := by decide +kernel
theorem dX12_mark_27 : decode cX12_mark 27 = .ok (.invokestatic 69, 3) := by decide +kernel
theorem dX12_mark_30 : decode cX12_mark 30 = .ok (.ifCond .ne 6, 3) := by decide +kernel
theorem dX12_mark_33 : decode cX12_mark 33 = .ok (.bipush (-9), 2) := by decide +kernel
theorem dX12_mark_35 : decode cX12_mark 35 = .ok (.ireturn, 1) := by decide +kernel
theorem dX12_mark_36 : decode cX12_mark 36 = .ok (.iload_n 2, 1) := by decide +kernel
theorem dX12_mark_37 : decode cX12_mark 37 = .ok (.tableswitch 56 0 2 #[27, 36, 46], 27) := by decide +kernel
theorem dX12_mark_64 : decode cX12_mark 64 = .ok (.aload_n 0, 1) := by decide +kernel
theorem dX12_mark_65 : decode cX12_mark 65 = .ok (.getfield 22, 3) := by decide +kernel
theorem dX12_mark_68 : decode cX12_mark 68 = .ok (.iconst 1, 1) := by decide +kernel
theorem dX12_mark_69 : decode cX12_mark 69 = .ok (.iload_n 1, 1) := by decide +kernel
theorem dX12_mark_70 : decode cX12_mark 70 = .ok (.iadd, 1) := by decide +kernel
theorem dX12_mark_71 : decode cX12_mark 71 = .ok (.iaload, 1) := by decide +kernel
theorem dX12_mark_72 : decode cX12_mark 72 = .ok (.ireturn, 1) := by decide +kernel
theorem dX12_mark_73 : decode cX12_mark 73 = .ok (.aload_n 0, 1) := by decide +kernel
theorem dX12_mark_74 : decode cX12_mark 74 = .ok (.getfield 22, 3) := by decide +kernel
theorem dX12_mark_77 : decode cX12_mark 77 = .ok (.bipush 37, 2) := by decide +kernel
theorem dX12_mark_79 : decode cX12_mark 79 = .ok (.iload_n 1, 1) := by decide +kernel
theorem dX12_mark_80 : decode cX12_mark 80 = .ok (.iadd, 1) := by decide +kernel
theorem dX12_mark_81 : decode cX12_mark 81 = .ok (.iaload, 1) := by decide +kernel
theorem dX12_mark_82 : decode cX12_mark 82 = .ok (.ireturn, 1) := by decide +kernel
theorem dX12_mark_83 : decode cX12_mark 83 = .ok (.aload_n 0, 1) := by decide +kernel
theorem dX12_mark_84 : decode cX12_mark 84 = .ok (.getfield 22, 3) := by decide +kernel
theorem dX12_mark_87 : decode cX12_mark 87 = .ok (.bipush 73, 2) := by decide +kernel
theorem dX12_mark_89 : decode cX12_mark 89 = .ok (.iload_n 1, 1) := by decide +kernel
theorem dX12_mark_90 : decode cX12_mark 90 = .ok (.iadd, 1) := by decide +kernel
theorem dX12_mark_91 : decode cX12_mark 91 = .ok (.iaload, 1) := by decide +kernel
theorem dX12_mark_92 : decode cX12_mark 92 = .ok (.ireturn, 1) := by decide +kernel
theorem dX12_mark_93 : decode cX12_mark 93 = .ok (.aload_n 0, 1) := by decide +kernel
theorem dX12_mark_94 : decode cX12_mark 94 = .ok (.aload_n 0, 1) := by decide +kernel
theorem dX12_mark_95 : decode cX12_mark 95 = .ok (.getfield 22, 3) := by decide +kernel
theorem dX12_mark_98 : decode cX12_mark 98 = .ok (.iload_n 1, 1) := by decide +kernel
theorem dX12_mark_99 : decode cX12_mark 99 = .ok (.iconst 0, 1) := by decide +kernel
theorem dX12_mark_100 : decode cX12_mark 100 = .ok (.invokevirtual 225, 3) := by decide +kernel
theorem dX12_mark_103 : decode cX12_mark 103 = .ok (.ireturn, 1) := by decide +kernel
theorem dX12_isCut_0 : decode cX12_isCut 0 = .ok (.iload_n 1, 1) := by decide +kernel
theorem dX12_isCut_1 : decode cX12_isCut 1 = .ok (.i2l, 1) := by decide +kernel
theorem dX12_isCut_2 : decode cX12_isCut 2 = .ok (.lconst 0, 1) := by decide +kernel
theorem dX12_isCut_3 : decode cX12_isCut 3 = .ok (.aload_n 0, 1) := by decide +kernel
theorem dX12_isCut_4 : decode cX12_isCut 4 = .ok (.getfield 22, 3) := by decide +kernel
theorem dX12_isCut_7 : decode cX12_isCut 7 = .ok (.bipush 109, 2) := by decide +kernel
theorem dX12_isCut_9 : decode cX12_isCut 9 = .ok (.iaload, 1) := by decide +kernel
theorem dX12_isCut_10 : decode cX12_isCut 10 = .ok (.iconst 1, 1) := by decide +kernel
theorem dX12_isCut_11 : decode cX12_isCut 11 = .ok (.isub, 1) := by decide +kernel
theorem dX12_isCut_12 : decode cX12_isCut 12 = .ok (.i2l, 1) := by decide +kernel
theorem dX12_isCut_13 : decode cX12_isCut 13 = .ok (.invokestatic 69, 3) := by decide +kernel
theorem dX12_isCut_16 : decode cX12_isCut 16 = .ok (.ireturn, 1) := by decide +kernel
theorem dX12_cut_0 : decode cX12_cut 0 = .ok (.aload_n 0, 1) := by decide +kernel
theorem dX12_cut_1 : decode cX12_cut 1 = .ok (.iload_n 1, 1) := by decide +kernel
theorem dX12_cut_2 : decode cX12_cut 2 = .ok (.invokevirtual 277, 3) := by decide +kernel
theorem dX12_cut_5 : decode cX12_cut 5 = .ok (.ifCond .ne 5, 3) := by decide +kernel
theorem dX12_cut_8 : decode cX12_cut 8 = .ok (.iconst (-1), 1) := by decide +kernel
theorem dX12_cut_9 : decode cX12_cut 9 = .ok (.ireturn, 1) := by decide +kernel
theorem dX12_cut_10 : decode cX12_cut 10 = .ok (.iload_n 2, 1) := by decide +kernel
theorem dX12_cut_11 : decode cX12_cut 11 = .ok (.i2l, 1) := by decide +kernel
theorem dX12_cut_12 : decode cX12_cut 12 = .ok (.lconst 0, 1) := by decide +kernel
theorem dX12_cut_13 : decode cX12_cut 13 = .ok (.aload_n 0, 1) := by decide +kernel
theorem dX12_cut_14 : decode cX12_cut 14 = .ok (.getfield 22, 3) := by decide +kernel
theorem dX12_cut_17 : decode cX12_cut 17 = .ok (.bipush 110, 2) := by decide +kernel
theorem dX12_cut_19 : decode cX12_cut 19 = .ok (.iload_n 1, 1) := by decide +kernel
theorem dX12_cut_20 : decode cX12_cut 20 = .ok (.iadd, 1) := by decide +kernel
theorem dX12_cut_21 : decode cX12_cut 21 = .ok (.iaload, 1) := by decide +kernel
theorem dX12_cut_22 : decode cX12_cut 22 = .ok (.iconst 1, 1) := by decide +kernel
theorem dX12_cut_23 : decode cX12_cut 23 = .ok (.isub, 1) := by decide +kernel
theorem dX12_cut_24 : decode cX12_cut 24 = .ok (.i2l, 1) := by decide +kernel
theorem dX12_cut_25 : decode cX12_cut 25 = .ok (.invokestatic 69, 3) := by decide +kernel
theorem dX12_cut_28 : decode cX12_cut 28 = .ok (.ifCond .eq 16, 3) := by decide +kernel
theorem dX12_cut_31 : decode cX12_cut 31 = .ok (.aload_n 0, 1) := by decide +kernel
theorem dX12_cut_32 : decode cX12_cut 32 = .ok (.aload_n 0, 1) := by decide +kernel
theorem dX12_cut_33 : decode cX12_cut 33 = .ok (.getfield 22, 3) := by decide +kernel
theorem dX12_cut_36 : decode cX12_cut 36 = .ok (.iload_n 1, 1) := by decide +kernel
theorem dX12_cut_37 : decode cX12_cut 37 = .ok (.iload_n 2, 1) := by decide +kernel
theorem dX12_cut_38 : decode cX12_cut 38 = .ok (.invokevirtual 138, 3) := by decide +kernel
theorem dX12_cut_41 : decode cX12_cut 41 = .ok (.goto 5, 3) := by decide +kernel
theorem dX12_cut_44 : decode cX12_cut 44 = .ok (.bipush (-9), 2) := by decide +kernel
theorem dX12_cut_46 : decode cX12_cut 46 = .ok (.ireturn, 1) := by decide +kernel
theorem dX12_follows_0 : decode cX12_follows 0 = .ok (.aload_n 0, 1) := by decide +kernel
theorem dX12_follows_1 : decode cX12_follows 1 = .ok (.iload_n 1, 1) := by decide +kernel
theorem dX12_follows_2 : decode cX12_follows 2 = .ok (.invokevirtual 277, 3) := by decide +kernel
theorem dX12_follows_5 : decode cX12_follows 5 = .ok (.ifCond .ne 5, 3) := by decide +kernel
theorem dX12_follows_8 : decode cX12_follows 8 = .ok (.iconst (-1), 1) := by decide +kernel
theorem dX12_follows_9 : decode cX12_follows 9 = .ok (.ireturn, 1) := by decide +kernel
theorem dX12_follows_10 : decode cX12_follows 10 = .ok (.iconst 0, 1) := by decide +kernel
theorem dX12_follows_11 : decode cX12_follows 11 = .ok (.istore_n 2, 1) := by decide +kernel
theorem dX12_follows_12 : decode cX12_follows 12 = .ok (.aload_n 0, 1) := by decide +kernel
theorem dX12_follows_13 : decode cX12_follows 13 = .ok (.iload_n 2, 1) := by decide +kernel
theorem dX12_follows_14 : decode cX12_follows 14 = .ok (.invokevirtual 253, 3) := by decide +kernel
theorem dX12_follows_17 : decode cX12_follows 17 = .ok (.ifCond .eq 79, 3) := by decide +kernel
theorem dX12_follows_20 : decode cX12_follows 20 = .ok (.aload_n 0, 1) := by decide +kernel
theorem dX12_follows_21 : decode cX12_follows 21 = .ok (.invokevirtual 256, 3) := by decide +kernel
theorem dX12_follows_24 : decode cX12_follows 24 = .ok (.ifCond .ne 7, 3) := by decide +kernel
theorem dX12_follows_27 : decode cX12_follows 27 = .ok (.iconst 1, 1) := by decide +kernel
theorem dX12_follows_28 : decode cX12_follows 28 = .ok (.goto 4, 3) := by decide +kernel
theorem dX12_follows_31 : decode cX12_follows 31 = .ok (.iconst 0, 1) := by decide +kernel
theorem dX12_follows_32 : decode cX12_follows 32 = .ok (.istore_n 3, 1) := by decide +kernel
theorem dX12_follows_33 : decode cX12_follows 33 = .ok (.iconst 0, 1) := by decide +kernel
theorem dX12_follows_34 : decode cX12_follows 34 = .ok (.istore 4, 2) := by decide +kernel
theorem dX12_follows_36 : decode cX12_follows 36 = .ok (.iload 4, 2) := by decide +kernel
theorem dX12_follows_38 : decode cX12_follows 38 = .ok (.aload_n 0, 1) := by decide +kernel
theorem dX12_follows_39 : decode cX12_follows 39 = .ok (.getfield 22, 3) := by decide +kernel
theorem dX12_follows_42 : decode cX12_follows 42 = .ok (.bipush 110, 2) := by decide +kernel
theorem dX12_follows_44 : decode cX12_follows 44 = .ok (.iload_n 1, 1) := by decide +kernel
theorem dX12_follows_45 : decode cX12_follows 45 = .ok (.iadd, 1) := by decide +kernel
theorem dX12_follows_46 : decode cX12_follows 46 = .ok (.iaload, 1) := by decide +kernel
theorem dX12_follows_47 : decode cX12_follows 47 = .ok (.if_icmp .ge 37, 3) := by decide +kernel
theorem dX12_follows_50 : decode cX12_follows 50 = .ok (.iload_n 3, 1) := by decide +kernel
theorem dX12_follows_51 : decode cX12_follows 51 = .ok (.ifCond .eq 25, 3) := by decide +kernel
theorem dX12_follows_54 : decode cX12_follows 54 = .ok (.aload_n 0, 1) := by decide +kernel
theorem dX12_follows_55 : decode cX12_follows 55 = .ok (.aload_n 0, 1) := by decide +kernel
theorem dX12_follows_56 : decode cX12_follows 56 = .ok (.aload_n 0, 1) := by decide +kernel
theorem dX12_follows_57 : decode cX12_follows 57 = .ok (.getfield 22, 3) := by decide +kernel
theorem dX12_follows_60 : decode cX12_follows 60 = .ok (.iload_n 1, 1) := by decide +kernel
theorem dX12_follows_61 : decode cX12_follows 61 = .ok (.iload 4, 2) := by decide +kernel
theorem dX12_follows_63 : decode cX12_follows 63 = .ok (.invokevirtual 138, 3) := by decide +kernel
theorem dX12_follows_66 : decode cX12_follows 66 = .ok (.invokevirtual 250, 3) := by decide +kernel
theorem dX12_follows_69 : decode cX12_follows 69 = .ok (.ifCond .eq 7, 3) := by decide +kernel
theorem dX12_follows_72 : decode cX12_follows 72 = .ok (.iconst 1, 1) := by decide +kernel
theorem dX12_follows_73 : decode cX12_follows 73 = .ok (.goto 4, 3) := by decide +kernel
theorem dX12_follows_76 : decode cX12_follows 76 = .ok (.iconst 0, 1) := by decide +kernel
theorem dX12_follows_77 : decode cX12_follows 77 = .ok (.istore_n 3, 1) := by decide +kernel
theorem dX12_follows_78 : decode cX12_follows 78 = .ok (.iinc 4 1, 3) := by decide +kernel
theorem dX12_follows_81 : decode cX12_follows 81 = .ok (.goto (-45), 3) := by decide +kernel
theorem dX12_follows_84 : decode cX12_follows 84 = .ok (.iload_n 3, 1) := by decide +kernel
theorem dX12_follows_85 : decode cX12_follows 85 = .ok (.ifCond .eq 5, 3) := by decide +kernel
theorem dX12_follows_88 : decode cX12_follows 88 = .ok (.iconst 0, 1) := by decide +kernel
theorem dX12_follows_89 : decode cX12_follows 89 = .ok (.ireturn, 1) := by decide +kernel
theorem dX12_follows_90 : decode cX12_follows 90 = .ok (.iinc 2 1, 3) := by decide +kernel
theorem dX12_follows_93 : decode cX12_follows 93 = .ok (.goto (-81), 3) := by decide +kernel
theorem dX12_follows_96 : decode cX12_follows 96 = .ok (.iconst 1, 1) := by decide +kernel
theorem dX12_follows_97 : decode cX12_follows 97 = .ok (.ireturn, 1) := by decide +kernel
theorem dX12_note_0 : decode cX12_note 0 = .ok (.iconst 0, 1) := by decide +kernel
theorem dX12_note_1 : decode cX12_note 1 = .ok (.istore_n 1, 1) := by decide +kernel
theorem dX12_note_2 : decode cX12_note 2 = .ok (.iload_n 1, 1) := by decide +kernel
theorem dX12_note_3 : decode cX12_note 3 = .ok (.sipush 471, 3) := by decide +kernel
theorem dX12_note_6 : decode cX12_note 6 = .ok (.if_icmp .ge 30, 3) := by decide +kernel
theorem dX12_note_9 : decode cX12_note 9 = .ok (.aload_n 0, 1) := by decide +kernel
theorem dX12_note_10 : decode cX12_note 10 = .ok (.getfield 28, 3) := by decide +kernel
theorem dX12_note_13 : decode cX12_note 13 = .ok (.sipush 471, 3) := by decide +kernel
theorem dX12_note_16 : decode cX12_note 16 = .ok (.aload_n 0, 1) := by decide +kernel
theorem dX12_note_17 : decode cX12_note 17 = .ok (.getfield 280, 3) := by decide +kernel
theorem dX12_note_20 : decode cX12_note 20 = .ok (.imul, 1) := by decide +kernel
theorem dX12_note_21 : decode cX12_note 21 = .ok (.iload_n 1, 1) := by decide +kernel
theorem dX12_note_22 : decode cX12_note 22 = .ok (.iadd, 1) := by decide +kernel
theorem dX12_note_23 : decode cX12_note 23 = .ok (.aload_n 0, 1) := by decide +kernel
theorem dX12_note_24 : decode cX12_note 24 = .ok (.getfield 22, 3) := by decide +kernel
theorem dX12_note_27 : decode cX12_note 27 = .ok (.iload_n 1, 1) := by decide +kernel
theorem dX12_note_28 : decode cX12_note 28 = .ok (.iaload, 1) := by decide +kernel
theorem dX12_note_29 : decode cX12_note 29 = .ok (.iastore, 1) := by decide +kernel
theorem dX12_note_30 : decode cX12_note 30 = .ok (.iinc 1 1, 3) := by decide +kernel
theorem dX12_note_33 : decode cX12_note 33 = .ok (.goto (-31), 3) := by decide +kernel
theorem dX12_note_36 : decode cX12_note 36 = .ok (.aload_n 0, 1) := by decide +kernel
theorem dX12_note_37 : decode cX12_note 37 = .ok (.aload_n 0, 1) := by decide +kernel
theorem dX12_note_38 : decode cX12_note 38 = .ok (.getfield 280, 3) := by decide +kernel
theorem dX12_note_41 : decode cX12_note 41 = .ok (.iconst 1, 1) := by decide +kernel
theorem dX12_note_42 : decode cX12_note 42 = .ok (.iadd, 1) := by decide +kernel
theorem dX12_note_43 : decode cX12_note 43 = .ok (.bipush 14, 2) := by decide +kernel
theorem dX12_note_45 : decode cX12_note 45 = .ok (.irem, 1) := by decide +kernel
theorem dX12_note_46 : decode cX12_note 46 = .ok (.putfield 280, 3) := by decide +kernel
theorem dX12_note_49 : decode cX12_note 49 = .ok (.aload_n 0, 1) := by decide +kernel
theorem dX12_note_50 : decode cX12_note 50 = .ok (.aload_n 0, 1) := by decide +kernel
theorem dX12_note_51 : decode cX12_note 51 = .ok (.getfield 195, 3) := by decide +kernel
theorem dX12_note_54 : decode cX12_note 54 = .ok (.bipush 14, 2) := by decide +kernel
theorem dX12_note_56 : decode cX12_note 56 = .ok (.if_icmp .ge 12, 3) := by decide +kernel
theorem dX12_note_59 : decode cX12_note 59 = .ok (.aload_n 0, 1) := by decide +kernel
theorem dX12_note_60 : decode cX12_note 60 = .ok (.getfield 195, 3) := by decide +kernel
theorem dX12_note_63 : decode cX12_note 63 = .ok (.iconst 1, 1) := by decide +kernel
theorem dX12_note_64 : decode cX12_note 64 = .ok (.iadd, 1) := by decide +kernel
theorem dX12_note_65 : decode cX12_note 65 = .ok (.goto 5, 3) := by decide +kernel
theorem dX12_note_68 : decode cX12_note 68 = .ok (.bipush 14, 2) := by decide +kernel
theorem dX12_note_70 : decode cX12_note 70 = .ok (.putfield 195, 3) := by decide +kernel
theorem dX12_note_73 : decode cX12_note 73 = .ok (.return_, 1) := by decide +kernel
theorem dX12_make_0 : decode cX12_make 0 = .ok (.aload_n 0, 1) := by decide +kernel
theorem dX12_make_1 : decode cX12_make 1 = .ok (.iload_n 1, 1) := by decide +kernel
theorem dX12_make_2 : decode cX12_make 2 = .ok (.invokevirtual 247, 3) := by decide +kernel
theorem dX12_make_5 : decode cX12_make 5 = .ok (.ifCond .ne 5, 3) := by decide +kernel
theorem dX12_make_8 : decode cX12_make 8 = .ok (.iconst (-1), 1) := by decide +kernel
theorem dX12_make_9 : decode cX12_make 9 = .ok (.ireturn, 1) := by decide +kernel
theorem dX12_make_10 : decode cX12_make 10 = .ok (.iload_n 2, 1) := by decide +kernel
theorem dX12_make_11 : decode cX12_make 11 = .ok (.i2l, 1) := by decide +kernel
theorem dX12_make_12 : decode cX12_make 12 = .ok (.lconst 0, 1) := by decide +kernel
theorem dX12_make_13 : decode cX12_make 13 = .ok (.lconst 1, 1) := by decide +kernel
theorem dX12_make_14 : decode cX12_make 14 = .ok (.invokestatic 69, 3) := by decide +kernel
theorem dX12_make_17 : decode cX12_make 17 = .ok (.ifCond .eq 15, 3) := by decide +kernel
theorem dX12_make_20 : decode cX12_make 20 = .ok (.iload_n 3, 1) := by decide +kernel
theorem dX12_make_21 : decode cX12_make 21 = .ok (.i2l, 1) := by decide +kernel
theorem dX12_make_22 : decode cX12_make 22 = .ok (.lconst 0, 1) := by decide +kernel
theorem dX12_make_23 : decode cX12_make 23 = .ok (.ldc2_w 83, 3) := by decide +kernel
theorem dX12_make_26 : decode cX12_make 26 = .ok (.invokestatic 69, 3) := by decide +kernel
theorem dX12_make_29 : decode cX12_make 29 = .ok (.ifCond .ne 6, 3) := by decide +kernel
theorem dX12_make_32 : decode cX12_make 32 = .ok (.bipush (-2), 2) := by decide +kernel
theorem dX12_make_34 : decode cX12_make 34 = .ok (.ireturn, 1) := by decide +kernel
theorem dX12_make_35 : decode cX12_make 35 = .ok (.aload_n 0, 1) := by decide +kernel
theorem dX12_make_36 : decode cX12_make 36 = .ok (.aload_n 0, 1) := by decide +kernel
theorem dX12_make_37 : decode cX12_make 37 = .ok (.getfield 22, 3) := by decide +kernel
theorem dX12_make_40 : decode cX12_make 40 = .ok (.iload_n 1, 1) := by decide +kernel
theorem dX12_make_41 : decode cX12_make 41 = .ok (.iload_n 2, 1) := by decide +kernel
theorem dX12_make_42 : decode cX12_make 42 = .ok (.iload_n 3, 1) := by decide +kernel
theorem dX12_make_43 : decode cX12_make 43 = .ok (.invokestatic 130, 3) := by decide +kernel
theorem dX12_make_46 : decode cX12_make 46 = .ok (.invokevirtual 283, 3) := by decide +kernel
theorem dX12_make_49 : decode cX12_make 49 = .ok (.ifCond .ne 6, 3) := by decide +kernel
theorem dX12_make_52 : decode cX12_make 52 = .ok (.bipush (-3), 2) := by decide +kernel
theorem dX12_make_54 : decode cX12_make 54 = .ok (.ireturn, 1) := by decide +kernel
theorem dX12_make_55 : decode cX12_make 55 = .ok (.aload_n 0, 1) := by decide +kernel
theorem dX12_make_56 : decode cX12_make 56 = .ok (.invokevirtual 286, 3) := by decide +kernel
theorem dX12_make_59 : decode cX12_make 59 = .ok (.aload_n 0, 1) := by decide +kernel
theorem dX12_make_60 : decode cX12_make 60 = .ok (.aload_n 0, 1) := by decide +kernel
theorem dX12_make_61 : decode cX12_make 61 = .ok (.getfield 22, 3) := by decide +kernel
theorem dX12_make_64 : decode cX12_make 64 = .ok (.iload_n 1, 1) := by decide +kernel
theorem dX12_make_65 : decode cX12_make 65 = .ok (.iload_n 2, 1) := by decide +kernel
theorem dX12_make_66 : decode cX12_make 66 = .ok (.iload_n 3, 1) := by decide +kernel
theorem dX12_make_67 : decode cX12_make 67 = .ok (.invokestatic 130, 3) := by decide +kernel
theorem dX12_make_70 : decode cX12_make 70 = .ok (.invokevirtual 241, 3) := by decide +kernel
theorem dX12_make_73 : decode cX12_make 73 = .ok (.aload_n 0, 1) := by decide +kernel
theorem dX12_make_74 : decode cX12_make 74 = .ok (.getfield 22, 3) := by decide +kernel
theorem dX12_make_77 : decode cX12_make 77 = .ok (.iconst 0, 1) := by decide +kernel
theorem dX12_make_78 : decode cX12_make 78 = .ok (.iaload, 1) := by decide +kernel
theorem dX12_make_79 : decode cX12_make 79 = .ok (.ireturn, 1) := by decide +kernel
theorem dX12_learn_0 : decode cX12_learn 0 = .ok (.aload_n 0, 1) := by decide +kernel
theorem dX12_learn_1 : decode cX12_learn 1 = .ok (.aload_n 0, 1) := by decide +kernel
theorem dX12_learn_2 : decode cX12_learn 2 = .ok (.getfield 22, 3) := by decide +kernel
theorem dX12_learn_5 : decode cX12_learn 5 = .ok (.invokevirtual 289, 3) := by decide +kernel
theorem dX12_learn_8 : decode cX12_learn 8 = .ok (.ifCond .ne 6, 3) := by decide +kernel
theorem dX12_learn_11 : decode cX12_learn 11 = .ok (.bipush (-3), 2) := by decide +kernel
theorem dX12_learn_13 : decode cX12_learn 13 = .ok (.ireturn, 1) := by decide +kernel
theorem dX12_learn_14 : decode cX12_learn 14 = .ok (.aload_n 0, 1) := by decide +kernel
theorem dX12_learn_15 : decode cX12_learn 15 = .ok (.invokevirtual 286, 3) := by decide +kernel
theorem dX12_learn_18 : decode cX12_learn 18 = .ok (.aload_n 0, 1) := by decide +kernel
theorem dX12_learn_19 : decode cX12_learn 19 = .ok (.aload_n 0, 1) := by decide +kernel
theorem dX12_learn_20 : decode cX12_learn 20 = .ok (.getfield 22, 3) := by decide +kernel
theorem dX12_learn_23 : decode cX12_learn 23 = .ok (.invokevirtual 238, 3) := by decide +kernel
theorem dX12_learn_26 : decode cX12_learn 26 = .ok (.ireturn, 1) := by decide +kernel
theorem dX12_leave_0 : decode cX12_leave 0 = .ok (.aload_n 0, 1) := by decide +kernel
theorem dX12_leave_1 : decode cX12_leave 1 = .ok (.aload_n 0, 1) := by decide +kernel
theorem dX12_leave_2 : decode cX12_leave 2 = .ok (.getfield 22, 3) := by decide +kernel
theorem dX12_leave_5 : decode cX12_leave 5 = .ok (.invokevirtual 184, 3) := by decide +kernel
theorem dX12_leave_8 : decode cX12_leave 8 = .ok (.istore_n 1, 1) := by decide +kernel
theorem dX12_leave_9 : decode cX12_leave 9 = .ok (.iload_n 1, 1) := by decide +kernel
theorem dX12_leave_10 : decode cX12_leave 10 = .ok (.ifCond .ne 6, 3) := by decide +kernel
theorem dX12_leave_13 : decode cX12_leave 13 = .ok (.bipush (-3), 2) := by decide +kernel
theorem dX12_leave_15 : decode cX12_leave 15 = .ok (.ireturn, 1) := by decide +kernel
theorem dX12_leave_16 : decode cX12_leave 16 = .ok (.aload_n 0, 1) := by decide +kernel
theorem dX12_leave_17 : decode cX12_leave 17 = .ok (.invokevirtual 286, 3) := by decide +kernel
theorem dX12_leave_20 : decode cX12_leave 20 = .ok (.aload_n 0, 1) := by decide +kernel
theorem dX12_leave_21 : decode cX12_leave 21 = .ok (.aload_n 0, 1) := by decide +kernel
theorem dX12_leave_22 : decode cX12_leave 22 = .ok (.getfield 22, 3) := by decide +kernel
theorem dX12_leave_25 : decode cX12_leave 25 = .ok (.iload_n 1, 1) := by decide +kernel
theorem dX12_leave_26 : decode cX12_leave 26 = .ok (.iconst 1, 1) := by decide +kernel
theorem dX12_leave_27 : decode cX12_leave 27 = .ok (.isub, 1) := by decide +kernel
theorem dX12_leave_28 : decode cX12_leave 28 = .ok (.invokevirtual 232, 3) := by decide +kernel
theorem dX12_leave_31 : decode cX12_leave 31 = .ok (.aload_n 0, 1) := by decide +kernel
theorem dX12_leave_32 : decode cX12_leave 32 = .ok (.aload_n 0, 1) := by decide +kernel
theorem dX12_leave_33 : decode cX12_leave 33 = .ok (.getfield 22, 3) := by decide +kernel
theorem dX12_leave_36 : decode cX12_leave 36 = .ok (.invokevirtual 191, 3) := by decide +kernel
theorem dX12_leave_39 : decode cX12_leave 39 = .ok (.aload_n 0, 1) := by decide +kernel
theorem dX12_leave_40 : decode cX12_leave 40 = .ok (.aload_n 0, 1) := by decide +kernel
theorem dX12_leave_41 : decode cX12_leave 41 = .ok (.getfield 22, 3) := by decide +kernel
theorem dX12_leave_44 : decode cX12_leave 44 = .ok (.invokevirtual 184, 3) := by decide +kernel
theorem dX12_leave_47 : decode cX12_leave 47 = .ok (.ireturn, 1) := by decide +kernel
theorem dX12_run_0 : decode cX12_run 0 = .ok (.iload_n 1, 1) := by decide +kernel
theorem dX12_run_1 : decode cX12_run 1 = .ok (.i2l, 1) := by decide +kernel
theorem dX12_run_2 : decode cX12_run 2 = .ok (.lconst 1, 1) := by decide +kernel
theorem dX12_run_3 : decode cX12_run 3 = .ok (.ldc2_w 292, 3) := by decide +kernel
theorem dX12_run_6 : decode cX12_run 6 = .ok (.invokestatic 69, 3) := by decide +kernel
theorem dX12_run_9 : decode cX12_run 9 = .ok (.ifCond .ne 6, 3) := by decide +kernel
theorem dX12_run_12 : decode cX12_run 12 = .ok (.bipush (-2), 2) := by decide +kernel
theorem dX12_run_14 : decode cX12_run 14 = .ok (.ireturn, 1) := by decide +kernel
theorem dX12_run_15 : decode cX12_run 15 = .ok (.aload_n 0, 1) := by decide +kernel
theorem dX12_run_16 : decode cX12_run 16 = .ok (.invokevirtual 286, 3) := by decide +kernel
theorem dX12_run_19 : decode cX12_run 19 = .ok (.iconst 0, 1) := by decide +kernel
theorem dX12_run_20 : decode cX12_run 20 = .ok (.istore_n 2, 1) := by decide +kernel
theorem dX12_run_21 : decode cX12_run 21 = .ok (.iload_n 2, 1) := by decide +kernel
theorem dX12_run_22 : decode cX12_run 22 = .ok (.iload_n 1, 1) := by decide +kernel
theorem dX12_run_23 : decode cX12_run 23 = .ok (.if_icmp .ge 39, 3) := by decide +kernel
theorem dX12_run_26 : decode cX12_run 26 = .ok (.aload_n 0, 1) := by decide +kernel
theorem dX12_run_27 : decode cX12_run 27 = .ok (.getfield 22, 3) := by decide +kernel
theorem dX12_run_30 : decode cX12_run 30 = .ok (.sipush 470, 3) := by decide +kernel
theorem dX12_run_33 : decode cX12_run 33 = .ok (.iaload, 1) := by decide +kernel
theorem dX12_run_34 : decode cX12_run 34 = .ok (.ifCond .ne 28, 3) := by decide +kernel
theorem dX12_run_37 : decode cX12_run 37 = .ok (.aload_n 0, 1) := by decide +kernel
theorem dX12_run_38 : decode cX12_run 38 = .ok (.aload_n 0, 1) := by decide +kernel
theorem dX12_run_39 : decode cX12_run 39 = .ok (.getfield 22, 3) := by decide +kernel
theorem dX12_run_42 : decode cX12_run 42 = .ok (.invokevirtual 266, 3) := by decide +kernel
theorem dX12_run_45 : decode cX12_run 45 = .ok (.ifCond .ne 17, 3) := by decide +kernel
theorem dX12_run_48 : decode cX12_run 48 = .ok (.aload_n 0, 1) := by decide +kernel
theorem dX12_run_49 : decode cX12_run 49 = .ok (.aload_n 0, 1) := by decide +kernel
theorem dX12_run_50 : decode cX12_run 50 = .ok (.getfield 22, 3) := by decide +kernel
theorem dX12_run_53 : decode cX12_run 53 = .ok (.invokevirtual 294, 3) := by decide +kernel
theorem dX12_run_56 : decode cX12_run 56 = .ok (.iinc 2 1, 3) := by decide +kernel
theorem dX12_run_59 : decode cX12_run 59 = .ok (.goto (-38), 3) := by decide +kernel
theorem dX12_run_62 : decode cX12_run 62 = .ok (.iload_n 2, 1) := by decide +kernel
theorem dX12_run_63 : decode cX12_run 63 = .ok (.ireturn, 1) := by decide +kernel
theorem dX12_undo_0 : decode cX12_undo 0 = .ok (.aload_n 0, 1) := by decide +kernel
theorem dX12_undo_1 : decode cX12_undo 1 = .ok (.getfield 195, 3) := by decide +kernel
theorem dX12_undo_4 : decode cX12_undo 4 = .ok (.ifCond .ne 6, 3) := by decide +kernel
theorem dX12_undo_7 : decode cX12_undo 7 = .ok (.bipush (-3), 2) := by decide +kernel
theorem dX12_undo_9 : decode cX12_undo 9 = .ok (.ireturn, 1) := by decide +kernel
theorem dX12_undo_10 : decode cX12_undo 10 = .ok (.aload_n 0, 1) := by decide +kernel
theorem dX12_undo_11 : decode cX12_undo 11 = .ok (.dup, 1) := by decide +kernel
theorem dX12_undo_12 : decode cX12_undo 12 = .ok (.getfield 195, 3) := by decide +kernel
theorem dX12_undo_15 : decode cX12_undo 15 = .ok (.iconst 1, 1) := by decide +kernel
theorem dX12_undo_16 : decode cX12_undo 16 = .ok (.isub, 1) := by decide +kernel
theorem dX12_undo_17 : decode cX12_undo 17 = .ok (.putfield 195, 3) := by decide +kernel
theorem dX12_undo_20 : decode cX12_undo 20 = .ok (.aload_n 0, 1) := by decide +kernel
theorem dX12_undo_21 : decode cX12_undo 21 = .ok (.aload_n 0, 1) := by decide +kernel
theorem dX12_undo_22 : decode cX12_undo 22 = .ok (.getfield 280, 3) := by decide +kernel
theorem dX12_undo_25 : decode cX12_undo 25 = .ok (.bipush 14, 2) := by decide +kernel
theorem dX12_undo_27 : decode cX12_undo 27 = .ok (.iadd, 1) := by decide +kernel
theorem dX12_undo_28 : decode cX12_undo 28 = .ok (.iconst 1, 1) := by decide +kernel
theorem dX12_undo_29 : decode cX12_undo 29 = .ok (.isub, 1) := by decide +kernel
theorem dX12_undo_30 : decode cX12_undo 30 = .ok (.bipush 14, 2) := by decide +kernel
theorem dX12_undo_32 : decode cX12_undo 32 = .ok (.irem, 1) := by decide +kernel
theorem dX12_undo_33 : decode cX12_undo 33 = .ok (.putfield 280, 3) := by decide +kernel
theorem dX12_undo_36 : decode cX12_undo 36 = .ok (.iconst 0, 1) := by decide +kernel
theorem dX12_undo_37 : decode cX12_undo 37 = .ok (.istore_n 1, 1) := by decide +kernel
theorem dX12_undo_38 : decode cX12_undo 38 = .ok (.iload_n 1, 1) := by decide +kernel
theorem dX12_undo_39 : decode cX12_undo 39 = .ok (.sipush 471, 3) := by decide +kernel
theorem dX12_undo_42 : decode cX12_undo 42 = .ok (.if_icmp .ge 30, 3) := by decide +kernel
theorem dX12_undo_45 : decode cX12_undo 45 = .ok (.aload_n 0, 1) := by decide +kernel
theorem dX12_undo_46 : decode cX12_undo 46 = .ok (.getfield 22, 3) := by decide +kernel
theorem dX12_undo_49 : decode cX12_undo 49 = .ok (.iload_n 1, 1) := by decide +kernel
theorem dX12_undo_50 : decode cX12_undo 50 = .ok (.aload_n 0, 1) := by decide +kernel
theorem dX12_undo_51 : decode cX12_undo 51 = .ok (.getfield 28, 3) := by decide +kernel
theorem dX12_undo_54 : decode cX12_undo 54 = .ok (.sipush 471, 3) := by decide +kernel
theorem dX12_undo_57 : decode cX12_undo 57 = .ok (.aload_n 0, 1) := by decide +kernel
theorem dX12_undo_58 : decode cX12_undo 58 = .ok (.getfield 280, 3) := by decide +kernel
theorem dX12_undo_61 : decode cX12_undo 61 = .ok (.imul, 1) := by decide +kernel
theorem dX12_undo_62 : decode cX12_undo 62 = .ok (.iload_n 1, 1) := by decide +kernel
theorem dX12_undo_63 : decode cX12_undo 63 = .ok (.iadd, 1) := by decide +kernel
theorem dX12_undo_64 : decode cX12_undo 64 = .ok (.iaload, 1) := by decide +kernel
theorem dX12_undo_65 : decode cX12_undo 65 = .ok (.iastore, 1) := by decide +kernel
theorem dX12_undo_66 : decode cX12_undo 66 = .ok (.iinc 1 1, 3) := by decide +kernel
theorem dX12_undo_69 : decode cX12_undo 69 = .ok (.goto (-31), 3) := by decide +kernel
theorem dX12_undo_72 : decode cX12_undo 72 = .ok (.aload_n 0, 1) := by decide +kernel
theorem dX12_undo_73 : decode cX12_undo 73 = .ok (.getfield 195, 3) := by decide +kernel
theorem dX12_undo_76 : decode cX12_undo 76 = .ok (.ireturn, 1) := by decide +kernel
theorem dX12_makes_0 : decode cX12_makes 0 = .ok (.aload_n 0, 1) := by decide +kernel
theorem dX12_makes_1 : decode cX12_makes 1 = .ok (.iload_n 1, 1) := by decide +kernel
theorem dX12_makes_2 : decode cX12_makes 2 = .ok (.invokevirtual 247, 3) := by decide +kernel
theorem dX12_makes_5 : decode cX12_makes 5 = .ok (.ifCond .eq 24, 3) := by decide +kernel
theorem dX12_makes_8 : decode cX12_makes 8 = .ok (.aload_n 0, 1) := by decide +kernel
theorem dX12_makes_9 : decode cX12_makes 9 = .ok (.aload_n 0, 1) := by decide +kernel
theorem dX12_makes_10 : decode cX12_makes 10 = .ok (.getfield 25, 3) := by decide +kernel
theorem dX12_makes_13 : decode cX12_makes 13 = .ok (.iload_n 1, 1) := by decide +kernel
theorem dX12_makes_14 : decode cX12_makes 14 = .ok (.iload_n 2, 1) := by decide +kernel
theorem dX12_makes_15 : decode cX12_makes 15 = .ok (.iload_n 3, 1) := by decide +kernel
theorem dX12_makes_16 : decode cX12_makes 16 = .ok (.invokestatic 130, 3) := by decide +kernel
theorem dX12_makes_19 : decode cX12_makes 19 = .ok (.invokevirtual 283, 3) := by decide +kernel
theorem dX12_makes_22 : decode cX12_makes 22 = .ok (.ifCond .eq 7, 3) := by decide +kernel
theorem dX12_makes_25 : decode cX12_makes 25 = .ok (.iconst 1, 1) := by decide +kernel
theorem dX12_makes_26 : decode cX12_makes 26 = .ok (.goto 4, 3) := by decide +kernel
theorem dX12_makes_29 : decode cX12_makes 29 = .ok (.iconst 0, 1) := by decide +kernel
theorem dX12_makes_30 : decode cX12_makes 30 = .ok (.istore 4, 2) := by decide +kernel
theorem dX12_makes_32 : decode cX12_makes 32 = .ok (.iload 4, 2) := by decide +kernel
theorem dX12_makes_34 : decode cX12_makes 34 = .ok (.ifCond .eq 17, 3) := by decide +kernel
theorem dX12_makes_37 : decode cX12_makes 37 = .ok (.aload_n 0, 1) := by decide +kernel
theorem dX12_makes_38 : decode cX12_makes 38 = .ok (.aload_n 0, 1) := by decide +kernel
theorem dX12_makes_39 : decode cX12_makes 39 = .ok (.getfield 25, 3) := by decide +kernel
theorem dX12_makes_42 : decode cX12_makes 42 = .ok (.iload_n 1, 1) := by decide +kernel
theorem dX12_makes_43 : decode cX12_makes 43 = .ok (.iload_n 2, 1) := by decide +kernel
theorem dX12_makes_44 : decode cX12_makes 44 = .ok (.iload_n 3, 1) := by decide +kernel
theorem dX12_makes_45 : decode cX12_makes 45 = .ok (.invokestatic 130, 3) := by decide +kernel
theorem dX12_makes_48 : decode cX12_makes 48 = .ok (.invokevirtual 241, 3) := by decide +kernel
theorem dX12_makes_51 : decode cX12_makes 51 = .ok (.iload 4, 2) := by decide +kernel
theorem dX12_makes_53 : decode cX12_makes 53 = .ok (.ireturn, 1) := by decide +kernel
theorem dX12_judged_0 : decode cX12_judged 0 = .ok (.iload_n 1, 1) := by decide +kernel
theorem dX12_judged_1 : decode cX12_judged 1 = .ok (.tableswitch 188 1 7 #[43, 43, 53, 91, 112, 139, 166], 43) := by decide +kernel
theorem dX12_judged_44 : decode cX12_judged 44 = .ok (.aload_n 0, 1) := by decide +kernel
theorem dX12_judged_45 : decode cX12_judged 45 = .ok (.iload_n 2, 1) := by decide +kernel
theorem dX12_judged_46 : decode cX12_judged 46 = .ok (.iload_n 1, 1) := by decide +kernel
theorem dX12_judged_47 : decode cX12_judged 47 = .ok (.iconst 1, 1) := by decide +kernel
theorem dX12_judged_48 : decode cX12_judged 48 = .ok (.isub, 1) := by decide +kernel
theorem dX12_judged_49 : decode cX12_judged 49 = .ok (.iload_n 3, 1) := by decide +kernel
theorem dX12_judged_50 : decode cX12_judged 50 = .ok (.invokevirtual 297, 3) := by decide +kernel
theorem dX12_judged_53 : decode cX12_judged 53 = .ok (.ireturn, 1) := by decide +kernel
theorem dX12_judged_54 : decode cX12_judged 54 = .ok (.iload_n 2, 1) := by decide +kernel
theorem dX12_judged_55 : decode cX12_judged 55 = .ok (.ifCond .ne 18, 3) := by decide +kernel
theorem dX12_judged_58 : decode cX12_judged 58 = .ok (.iload_n 3, 1) := by decide +kernel
theorem dX12_judged_59 : decode cX12_judged 59 = .ok (.ifCond .ne 14, 3) := by decide +kernel
theorem dX12_judged_62 : decode cX12_judged 62 = .ok (.aload_n 0, 1) := by decide +kernel
theorem dX12_judged_63 : decode cX12_judged 63 = .ok (.aload_n 0, 1) := by decide +kernel
theorem dX12_judged_64 : decode cX12_judged 64 = .ok (.getfield 25, 3) := by decide +kernel
theorem dX12_judged_67 : decode cX12_judged 67 = .ok (.invokevirtual 289, 3) := by decide +kernel
theorem dX12_judged_70 : decode cX12_judged 70 = .ok (.ifCond .ne 5, 3) := by decide +kernel
theorem dX12_judged_73 : decode cX12_judged 73 = .ok (.iconst 0, 1) := by decide +kernel
theorem dX12_judged_74 : decode cX12_judged 74 = .ok (.ireturn, 1) := by decide +kernel
theorem dX12_judged_75 : decode cX12_judged 75 = .ok (.aload_n 0, 1) := by decide +kernel
theorem dX12_judged_76 : decode cX12_judged 76 = .ok (.aload_n 0, 1) := by decide +kernel
theorem dX12_judged_77 : decode cX12_judged 77 = .ok (.getfield 25, 3) := by decide +kernel
theorem dX12_judged_80 : decode cX12_judged 80 = .ok (.invokevirtual 238, 3) := by decide +kernel
theorem dX12_judged_83 : decode cX12_judged 83 = .ok (.ifCond .lt 7, 3) := by decide +kernel
theorem dX12_judged_86 : decode cX12_judged 86 = .ok (.iconst 1, 1) := by decide +kernel
theorem dX12_judged_87 : decode cX12_judged 87 = .ok (.goto 4, 3) := by decide +kernel
theorem dX12_judged_90 : decode cX12_judged 90 = .ok (.iconst 0, 1) := by decide +kernel
theorem dX12_judged_91 : decode cX12_judged 91 = .ok (.ireturn, 1) := by decide +kernel
theorem dX12_judged_92 : decode cX12_judged 92 = .ok (.aload_n 0, 1) := by decide +kernel
theorem dX12_judged_93 : decode cX12_judged 93 = .ok (.getfield 25, 3) := by decide +kernel
theorem dX12_judged_96 : decode cX12_judged 96 = .ok (.iconst 0, 1) := by decide +kernel
theorem dX12_judged_97 : decode cX12_judged 97 = .ok (.iaload, 1) := by decide +kernel
theorem dX12_judged_98 : decode cX12_judged 98 = .ok (.bipush 10, 2) := by decide +kernel
theorem dX12_judged_100 : decode cX12_judged 100 = .ok (.iload_n 2, 1) := by decide +kernel
theorem dX12_judged_101 : decode cX12_judged 101 = .ok (.imul, 1) := by decide +kernel
theorem dX12_judged_102 : decode cX12_judged 102 = .ok (.iload_n 3, 1) := by decide +kernel
theorem dX12_judged_103 : decode cX12_judged 103 = .ok (.iadd, 1) := by decide +kernel
theorem dX12_judged_104 : decode cX12_judged 104 = .ok (.if_icmp .ne 7, 3) := by decide +kernel
theorem dX12_judged_107 : decode cX12_judged 107 = .ok (.iconst 1, 1) := by decide +kernel
theorem dX12_judged_108 : decode cX12_judged 108 = .ok (.goto 4, 3) := by decide +kernel
theorem dX12_judged_111 : decode cX12_judged 111 = .ok (.iconst 0, 1) := by decide +kernel
theorem dX12_judged_112 : decode cX12_judged 112 = .ok (.ireturn, 1) := by decide +kernel
theorem dX12_judged_113 : decode cX12_judged 113 = .ok (.aload_n 0, 1) := by decide +kernel
theorem dX12_judged_114 : decode cX12_judged 114 = .ok (.iload_n 2, 1) := by decide +kernel
theorem dX12_judged_115 : decode cX12_judged 115 = .ok (.invokevirtual 247, 3) := by decide +kernel
theorem dX12_judged_118 : decode cX12_judged 118 = .ok (.ifCond .eq 20, 3) := by decide +kernel
theorem dX12_judged_121 : decode cX12_judged 121 = .ok (.aload_n 0, 1) := by decide +kernel
theorem dX12_judged_122 : decode cX12_judged 122 = .ok (.aload_n 0, 1) := by decide +kernel
theorem dX12_judged_123 : decode cX12_judged 123 = .ok (.getfield 25, 3) := by decide +kernel
theorem dX12_judged_126 : decode cX12_judged 126 = .ok (.iload_n 2, 1) := by decide +kernel
theorem dX12_judged_127 : decode cX12_judged 127 = .ok (.invokevirtual 123, 3) := by decide +kernel
theorem dX12_judged_130 : decode cX12_judged 130 = .ok (.iload_n 3, 1) := by decide +kernel
theorem dX12_judged_131 : decode cX12_judged 131 = .ok (.if_icmp .ne 7, 3) := by decide +kernel
theorem dX12_judged_134 : decode cX12_judged 134 = .ok (.iconst 1, 1) := by decide +kernel
theorem dX12_judged_135 : decode cX12_judged 135 = .ok (.goto 4, 3) := by decide +kernel
theorem dX12_judged_138 : decode cX12_judged 138 = .ok (.iconst 0, 1) := by decide +kernel
theorem dX12_judged_139 : decode cX12_judged 139 = .ok (.ireturn, 1) := by decide +kernel
theorem dX12_judged_140 : decode cX12_judged 140 = .ok (.aload_n 0, 1) := by decide +kernel
theorem dX12_judged_141 : decode cX12_judged 141 = .ok (.iload_n 2, 1) := by decide +kernel
theorem dX12_judged_142 : decode cX12_judged 142 = .ok (.invokevirtual 247, 3) := by decide +kernel
theorem dX12_judged_145 : decode cX12_judged 145 = .ok (.ifCond .eq 20, 3) := by decide +kernel
theorem dX12_judged_148 : decode cX12_judged 148 = .ok (.aload_n 0, 1) := by decide +kernel
theorem dX12_judged_149 : decode cX12_judged 149 = .ok (.aload_n 0, 1) := by decide +kernel
theorem dX12_judged_150 : decode cX12_judged 150 = .ok (.getfield 25, 3) := by decide +kernel
theorem dX12_judged_153 : decode cX12_judged 153 = .ok (.iload_n 2, 1) := by decide +kernel
theorem dX12_judged_154 : decode cX12_judged 154 = .ok (.invokevirtual 127, 3) := by decide +kernel
theorem dX12_judged_157 : decode cX12_judged 157 = .ok (.iload_n 3, 1) := by decide +kernel
theorem dX12_judged_158 : decode cX12_judged 158 = .ok (.if_icmp .ne 7, 3) := by decide +kernel
theorem dX12_judged_161 : decode cX12_judged 161 = .ok (.iconst 1, 1) := by decide +kernel
theorem dX12_judged_162 : decode cX12_judged 162 = .ok (.goto 4, 3) := by decide +kernel
theorem dX12_judged_165 : decode cX12_judged 165 = .ok (.iconst 0, 1) := by decide +kernel
theorem dX12_judged_166 : decode cX12_judged 166 = .ok (.ireturn, 1) := by decide +kernel
theorem dX12_judged_167 : decode cX12_judged 167 = .ok (.aload_n 0, 1) := by decide +kernel
theorem dX12_judged_168 : decode cX12_judged 168 = .ok (.getfield 25, 3) := by decide +kernel
theorem dX12_judged_171 : decode cX12_judged 171 = .ok (.bipush 109, 2) := by decide +kernel
theorem dX12_judged_173 : decode cX12_judged 173 = .ok (.iaload, 1) := by decide +kernel
theorem dX12_judged_174 : decode cX12_judged 174 = .ok (.bipush 10, 2) := by decide +kernel
theorem dX12_judged_176 : decode cX12_judged 176 = .ok (.iload_n 2, 1) := by decide +kernel
theorem dX12_judged_177 : decode cX12_judged 177 = .ok (.imul, 1) := by decide +kernel
theorem dX12_judged_178 : decode cX12_judged 178 = .ok (.iload_n 3, 1) := by decide +kernel
theorem dX12_judged_179 : decode cX12_judged 179 = .ok (.iadd, 1) := by decide +kernel
theorem dX12_judged_180 : decode cX12_judged 180 = .ok (.if_icmp .ne 7, 3) := by decide +kernel
theorem dX12_judged_183 : decode cX12_judged 183 = .ok (.iconst 1, 1) := by decide +kernel
theorem dX12_judged_184 : decode cX12_judged 184 = .ok (.goto 4, 3) := by decide +kernel
theorem dX12_judged_187 : decode cX12_judged 187 = .ok (.iconst 0, 1) := by decide +kernel
theorem dX12_judged_188 : decode cX12_judged 188 = .ok (.ireturn, 1) := by decide +kernel
theorem dX12_judged_189 : decode cX12_judged 189 = .ok (.iconst 0, 1) := by decide +kernel
theorem dX12_judged_190 : decode cX12_judged 190 = .ok (.ireturn, 1) := by decide +kernel
theorem dX12_thousands_0 : decode cX12_thousands 0 = .ok (.lconst 1, 1) := by decide +kernel
theorem dX12_thousands_1 : decode cX12_thousands 1 = .ok (.lstore_n 1, 1) := by decide +kernel
theorem dX12_thousands_2 : decode cX12_thousands 2 = .ok (.iconst 0, 1) := by decide +kernel
theorem dX12_thousands_3 : decode cX12_thousands 3 = .ok (.istore_n 3, 1) := by decide +kernel
theorem dX12_thousands_4 : decode cX12_thousands 4 = .ok (.iload_n 3, 1) := by decide +kernel
theorem dX12_thousands_5 : decode cX12_thousands 5 = .ok (.iload_n 0, 1) := by decide +kernel
theorem dX12_thousands_6 : decode cX12_thousands 6 = .ok (.if_icmp .ge 15, 3) := by decide +kernel
theorem dX12_thousands_9 : decode cX12_thousands 9 = .ok (.lload_n 1, 1) := by decide +kernel
theorem dX12_thousands_10 : decode cX12_thousands 10 = .ok (.ldc2_w 301, 3) := by decide +kernel
theorem dX12_thousands_13 : decode cX12_thousands 13 = .ok (.lmul, 1) := by decide +kernel
theorem dX12_thousands_14 : decode cX12_thousands 14 = .ok (.lstore_n 1, 1) := by decide +kernel
theorem dX12_thousands_15 : decode cX12_thousands 15 = .ok (.iinc 3 1, 3) := by decide +kernel
theorem dX12_thousands_18 : decode cX12_thousands 18 = .ok (.goto (-14), 3) := by decide +kernel
theorem dX12_thousands_21 : decode cX12_thousands 21 = .ok (.lload_n 1, 1) := by decide +kernel
theorem dX12_thousands_22 : decode cX12_thousands 22 = .ok (.lreturn, 1) := by decide +kernel
theorem dX12_judge_0 : decode cX12_judge 0 = .ok (.iload_n 1, 1) := by decide +kernel
theorem dX12_judge_1 : decode cX12_judge 1 = .ok (.i2l, 1) := by decide +kernel
theorem dX12_judge_2 : decode cX12_judge 2 = .ok (.lconst 1, 1) := by decide +kernel
theorem dX12_judge_3 : decode cX12_judge 3 = .ok (.ldc2_w 81, 3) := by decide +kernel
theorem dX12_judge_6 : decode cX12_judge 6 = .ok (.invokestatic 69, 3) := by decide +kernel
theorem dX12_judge_9 : decode cX12_judge 9 = .ok (.ifCond .eq 17, 3) := by decide +kernel
theorem dX12_judge_12 : decode cX12_judge 12 = .ok (.lload_n 2, 1) := by decide +kernel
theorem dX12_judge_13 : decode cX12_judge 13 = .ok (.lconst 0, 1) := by decide +kernel
theorem dX12_judge_14 : decode cX12_judge 14 = .ok (.iload_n 1, 1) := by decide +kernel
theorem dX12_judge_15 : decode cX12_judge 15 = .ok (.invokestatic 303, 3) := by decide +kernel
theorem dX12_judge_18 : decode cX12_judge 18 = .ok (.lconst 1, 1) := by decide +kernel
theorem dX12_judge_19 : decode cX12_judge 19 = .ok (.lsub, 1) := by decide +kernel
theorem dX12_judge_20 : decode cX12_judge 20 = .ok (.invokestatic 69, 3) := by decide +kernel
theorem dX12_judge_23 : decode cX12_judge 23 = .ok (.ifCond .ne 6, 3) := by decide +kernel
theorem dX12_judge_26 : decode cX12_judge 26 = .ok (.bipush (-2), 2) := by decide +kernel
theorem dX12_judge_28 : decode cX12_judge 28 = .ok (.ireturn, 1) := by decide +kernel
theorem dX12_judge_29 : decode cX12_judge 29 = .ok (.aload_n 0, 1) := by decide +kernel
theorem dX12_judge_30 : decode cX12_judge 30 = .ok (.getfield 22, 3) := by decide +kernel
theorem dX12_judge_33 : decode cX12_judge 33 = .ok (.aload_n 0, 1) := by decide +kernel
theorem dX12_judge_34 : decode cX12_judge 34 = .ok (.getfield 25, 3) := by decide +kernel
theorem dX12_judge_37 : decode cX12_judge 37 = .ok (.invokestatic 307, 3) := by decide +kernel
theorem dX12_judge_40 : decode cX12_judge 40 = .ok (.iconst 0, 1) := by decide +kernel
theorem dX12_judge_41 : decode cX12_judge 41 = .ok (.istore 4, 2) := by decide +kernel
theorem dX12_judge_43 : decode cX12_judge 43 = .ok (.iload 4, 2) := by decide +kernel
theorem dX12_judge_45 : decode cX12_judge 45 = .ok (.iload_n 1, 1) := by decide +kernel
theorem dX12_judge_46 : decode cX12_judge 46 = .ok (.if_icmp .ge 55, 3) := by decide +kernel
theorem dX12_judge_49 : decode cX12_judge 49 = .ok (.lload_n 2, 1) := by decide +kernel
theorem dX12_judge_50 : decode cX12_judge 50 = .ok (.iload_n 1, 1) := by decide +kernel
theorem dX12_judge_51 : decode cX12_judge 51 = .ok (.iconst 1, 1) := by decide +kernel
theorem dX12_judge_52 : decode cX12_judge 52 = .ok (.isub, 1) := by decide +kernel
theorem dX12_judge_53 : decode cX12_judge 53 = .ok (.iload 4, 2) := by decide +kernel
theorem dX12_judge_55 : decode cX12_judge 55 = .ok (.isub, 1) := by decide +kernel
theorem dX12_judge_56 : decode cX12_judge 56 = .ok (.invokestatic 303, 3) := by decide +kernel
theorem dX12_judge_59 : decode cX12_judge 59 = .ok (.ldiv, 1) := by decide +kernel
theorem dX12_judge_60 : decode cX12_judge 60 = .ok (.ldc2_w 301, 3) := by decide +kernel
theorem dX12_judge_63 : decode cX12_judge 63 = .ok (.lrem, 1) := by decide +kernel
theorem dX12_judge_64 : decode cX12_judge 64 = .ok (.l2i, 1) := by decide +kernel
theorem dX12_judge_65 : decode cX12_judge 65 = .ok (.istore 5, 2) := by decide +kernel
theorem dX12_judge_67 : decode cX12_judge 67 = .ok (.aload_n 0, 1) := by decide +kernel
theorem dX12_judge_68 : decode cX12_judge 68 = .ok (.iload 5, 2) := by decide +kernel
theorem dX12_judge_70 : decode cX12_judge 70 = .ok (.bipush 100, 2) := by decide +kernel
theorem dX12_judge_72 : decode cX12_judge 72 = .ok (.idiv, 1) := by decide +kernel
theorem dX12_judge_73 : decode cX12_judge 73 = .ok (.iload 5, 2) := by decide +kernel
theorem dX12_judge_75 : decode cX12_judge 75 = .ok (.bipush 10, 2) := by decide +kernel
theorem dX12_judge_77 : decode cX12_judge 77 = .ok (.idiv, 1) := by decide +kernel
theorem dX12_judge_78 : decode cX12_judge 78 = .ok (.bipush 10, 2) := by decide +kernel
theorem dX12_judge_80 : decode cX12_judge 80 = .ok (.irem, 1) := by decide +kernel
theorem dX12_judge_81 : decode cX12_judge 81 = .ok (.iload 5, 2) := by decide +kernel
theorem dX12_judge_83 : decode cX12_judge 83 = .ok (.bipush 10, 2) := by decide +kernel
theorem dX12_judge_85 : decode cX12_judge 85 = .ok (.irem, 1) := by decide +kernel
theorem dX12_judge_86 : decode cX12_judge 86 = .ok (.invokevirtual 311, 3) := by decide +kernel
theorem dX12_judge_89 : decode cX12_judge 89 = .ok (.ifCond .ne 6, 3) := by decide +kernel
theorem dX12_judge_92 : decode cX12_judge 92 = .ok (.iload 4, 2) := by decide +kernel
theorem dX12_judge_94 : decode cX12_judge 94 = .ok (.ireturn, 1) := by decide +kernel
theorem dX12_judge_95 : decode cX12_judge 95 = .ok (.iinc 4 1, 3) := by decide +kernel
theorem dX12_judge_98 : decode cX12_judge 98 = .ok (.goto (-55), 3) := by decide +kernel
theorem dX12_judge_101 : decode cX12_judge 101 = .ok (.bipush (-9), 2) := by decide +kernel
theorem dX12_judge_103 : decode cX12_judge 103 = .ok (.ireturn, 1) := by decide +kernel
theorem dX12_see_0 : decode cX12_see 0 = .ok (.aload_n 0, 1) := by decide +kernel
theorem dX12_see_1 : decode cX12_see 1 = .ok (.iload_n 1, 1) := by decide +kernel
theorem dX12_see_2 : decode cX12_see 2 = .ok (.invokevirtual 247, 3) := by decide +kernel
theorem dX12_see_5 : decode cX12_see 5 = .ok (.ifCond .ne 5, 3) := by decide +kernel
theorem dX12_see_8 : decode cX12_see 8 = .ok (.iconst (-1), 1) := by decide +kernel
theorem dX12_see_9 : decode cX12_see 9 = .ok (.ireturn, 1) := by decide +kernel
theorem dX12_see_10 : decode cX12_see 10 = .ok (.iload_n 2, 1) := by decide +kernel
theorem dX12_see_11 : decode cX12_see 11 = .ok (.i2l, 1) := by decide +kernel
theorem dX12_see_12 : decode cX12_see 12 = .ok (.lconst 0, 1) := by decide +kernel
theorem dX12_see_13 : decode cX12_see 13 = .ok (.lconst 1, 1) := by decide +kernel
theorem dX12_see_14 : decode cX12_see 14 = .ok (.invokestatic 69, 3) := by decide +kernel
theorem dX12_see_17 : decode cX12_see 17 = .ok (.ifCond .eq 26, 3) := by decide +kernel
theorem dX12_see_20 : decode cX12_see 20 = .ok (.iload_n 3, 1) := by decide +kernel
theorem dX12_see_21 : decode cX12_see 21 = .ok (.i2l, 1) := by decide +kernel
theorem dX12_see_22 : decode cX12_see 22 = .ok (.lconst 0, 1) := by decide +kernel
theorem dX12_see_23 : decode cX12_see 23 = .ok (.ldc2_w 83, 3) := by decide +kernel
theorem dX12_see_26 : decode cX12_see 26 = .ok (.invokestatic 69, 3) := by decide +kernel
theorem dX12_see_29 : decode cX12_see 29 = .ok (.ifCond .eq 14, 3) := by decide +kernel
theorem dX12_see_32 : decode cX12_see 32 = .ok (.iload 4, 2) := by decide +kernel
theorem dX12_see_34 : decode cX12_see 34 = .ok (.i2l, 1) := by decide +kernel
theorem dX12_see_35 : decode cX12_see 35 = .ok (.lconst 0, 1) := by decide +kernel
theorem dX12_see_36 : decode cX12_see 36 = .ok (.lconst 1, 1) := by decide +kernel
theorem dX12_see_37 : decode cX12_see 37 = .ok (.invokestatic 69, 3) := by decide +kernel
theorem dX12_see_40 : decode cX12_see 40 = .ok (.ifCond .ne 6, 3) := by decide +kernel
theorem dX12_see_43 : decode cX12_see 43 = .ok (.bipush (-2), 2) := by decide +kernel
theorem dX12_see_45 : decode cX12_see 45 = .ok (.ireturn, 1) := by decide +kernel
theorem dX12_see_46 : decode cX12_see 46 = .ok (.aload_n 0, 1) := by decide +kernel
theorem dX12_see_47 : decode cX12_see 47 = .ok (.getfield 244, 3) := by decide +kernel
theorem dX12_see_50 : decode cX12_see 50 = .ok (.bipush 6, 2) := by decide +kernel
theorem dX12_see_52 : decode cX12_see 52 = .ok (.if_icmp .ne 6, 3) := by decide +kernel
theorem dX12_see_55 : decode cX12_see 55 = .ok (.bipush (-4), 2) := by decide +kernel
theorem dX12_see_57 : decode cX12_see 57 = .ok (.ireturn, 1) := by decide +kernel
theorem dX12_see_58 : decode cX12_see 58 = .ok (.aload_n 0, 1) := by decide +kernel
theorem dX12_see_59 : decode cX12_see 59 = .ok (.getfield 38, 3) := by decide +kernel
theorem dX12_see_62 : decode cX12_see 62 = .ok (.aload_n 0, 1) := by decide +kernel
theorem dX12_see_63 : decode cX12_see 63 = .ok (.getfield 244, 3) := by decide +kernel
theorem dX12_see_66 : decode cX12_see 66 = .ok (.iload_n 1, 1) := by decide +kernel
theorem dX12_see_67 : decode cX12_see 67 = .ok (.iload_n 2, 1) := by decide +kernel
theorem dX12_see_68 : decode cX12_see 68 = .ok (.iload_n 3, 1) := by decide +kernel
theorem dX12_see_69 : decode cX12_see 69 = .ok (.invokestatic 130, 3) := by decide +kernel
theorem dX12_see_72 : decode cX12_see 72 = .ok (.iastore, 1) := by decide +kernel
theorem dX12_see_73 : decode cX12_see 73 = .ok (.aload_n 0, 1) := by decide +kernel
theorem dX12_see_74 : decode cX12_see 74 = .ok (.getfield 41, 3) := by decide +kernel
theorem dX12_see_77 : decode cX12_see 77 = .ok (.aload_n 0, 1) := by decide +kernel
theorem dX12_see_78 : decode cX12_see 78 = .ok (.getfield 244, 3) := by decide +kernel
theorem dX12_see_81 : decode cX12_see 81 = .ok (.iload 4, 2) := by decide +kernel
theorem dX12_see_83 : decode cX12_see 83 = .ok (.iastore, 1) := by decide +kernel
theorem dX12_see_84 : decode cX12_see 84 = .ok (.aload_n 0, 1) := by decide +kernel
theorem dX12_see_85 : decode cX12_see 85 = .ok (.dup, 1) := by decide +kernel
theorem dX12_see_86 : decode cX12_see 86 = .ok (.getfield 244, 3) := by decide +kernel
theorem dX12_see_89 : decode cX12_see 89 = .ok (.iconst 1, 1) := by decide +kernel
theorem dX12_see_90 : decode cX12_see 90 = .ok (.iadd, 1) := by decide +kernel
theorem dX12_see_91 : decode cX12_see 91 = .ok (.putfield 244, 3) := by decide +kernel
theorem dX12_see_94 : decode cX12_see 94 = .ok (.aload_n 0, 1) := by decide +kernel
theorem dX12_see_95 : decode cX12_see 95 = .ok (.getfield 244, 3) := by decide +kernel
theorem dX12_see_98 : decode cX12_see 98 = .ok (.ireturn, 1) := by decide +kernel
theorem dX12_unsee_0 : decode cX12_unsee 0 = .ok (.aload_n 0, 1) := by decide +kernel
theorem dX12_unsee_1 : decode cX12_unsee 1 = .ok (.getfield 244, 3) := by decide +kernel
theorem dX12_unsee_4 : decode cX12_unsee 4 = .ok (.istore_n 1, 1) := by decide +kernel
theorem dX12_unsee_5 : decode cX12_unsee 5 = .ok (.aload_n 0, 1) := by decide +kernel
theorem dX12_unsee_6 : decode cX12_unsee 6 = .ok (.iconst 0, 1) := by decide +kernel
theorem dX12_unsee_7 : decode cX12_unsee 7 = .ok (.putfield 244, 3) := by decide +kernel
theorem dX12_unsee_10 : decode cX12_unsee 10 = .ok (.iload_n 1, 1) := by decide +kernel
theorem dX12_unsee_11 : decode cX12_unsee 11 = .ok (.ireturn, 1) := by decide +kernel
theorem dX12_which_0 : decode cX12_which 0 = .ok (.aload_n 0, 1) := by decide +kernel
theorem dX12_which_1 : decode cX12_which 1 = .ok (.iconst 2, 1) := by decide +kernel
theorem dX12_which_2 : decode cX12_which 2 = .ok (.invokevirtual 269, 3) := by decide +kernel
theorem dX12_which_5 : decode cX12_which 5 = .ok (.ireturn, 1) := by decide +kernel
theorem dX12_layWorth_0 : decode cX12_layWorth 0 = .ok (.iconst 1, 1) := by decide +kernel
theorem dX12_layWorth_1 : decode cX12_layWorth 1 = .ok (.aload_n 0, 1) := by decide +kernel
theorem dX12_layWorth_2 : decode cX12_layWorth 2 = .ok (.getfield 145, 3) := by decide +kernel
theorem dX12_layWorth_5 : decode cX12_layWorth 5 = .ok (.ishl, 1) := by decide +kernel
theorem dX12_layWorth_6 : decode cX12_layWorth 6 = .ok (.istore_n 1, 1) := by decide +kernel
theorem dX12_layWorth_7 : decode cX12_layWorth 7 = .ok (.iconst 0, 1) := by decide +kernel
theorem dX12_layWorth_8 : decode cX12_layWorth 8 = .ok (.istore_n 2, 1) := by decide +kernel
theorem dX12_layWorth_9 : decode cX12_layWorth 9 = .ok (.iload_n 2, 1) := by decide +kernel
theorem dX12_layWorth_10 : decode cX12_layWorth 10 = .ok (.iload_n 1, 1) := by decide +kernel
theorem dX12_layWorth_11 : decode cX12_layWorth 11 = .ok (.if_icmp .ge 23, 3) := by decide +kernel
theorem dX12_layWorth_14 : decode cX12_layWorth 14 = .ok (.aload_n 0, 1) := by decide +kernel
theorem dX12_layWorth_15 : decode cX12_layWorth 15 = .ok (.getfield 50, 3) := by decide +kernel
theorem dX12_layWorth_18 : decode cX12_layWorth 18 = .ok (.iload_n 2, 1) := by decide +kernel
theorem dX12_layWorth_19 : decode cX12_layWorth 19 = .ok (.iconst 0, 1) := by decide +kernel
theorem dX12_layWorth_20 : decode cX12_layWorth 20 = .ok (.iastore, 1) := by decide +kernel
theorem dX12_layWorth_21 : decode cX12_layWorth 21 = .ok (.aload_n 0, 1) := by decide +kernel
theorem dX12_layWorth_22 : decode cX12_layWorth 22 = .ok (.getfield 53, 3) := by decide +kernel
theorem dX12_layWorth_25 : decode cX12_layWorth 25 = .ok (.iload_n 2, 1) := by decide +kernel
theorem dX12_layWorth_26 : decode cX12_layWorth 26 = .ok (.iconst 0, 1) := by decide +kernel
theorem dX12_layWorth_27 : decode cX12_layWorth 27 = .ok (.iastore, 1) := by decide +kernel
theorem dX12_layWorth_28 : decode cX12_layWorth 28 = .ok (.iinc 2 1, 3) := by decide +kernel
theorem dX12_layWorth_31 : decode cX12_layWorth 31 = .ok (.goto (-22), 3) := by decide +kernel
theorem dX12_layWorth_34 : decode cX12_layWorth 34 = .ok (.iconst 0, 1) := by decide +kernel
theorem dX12_layWorth_35 : decode cX12_layWorth 35 = .ok (.istore_n 2, 1) := by decide +kernel
theorem dX12_layWorth_36 : decode cX12_layWorth 36 = .ok (.aload_n 0, 1) := by decide +kernel
theorem dX12_layWorth_37 : decode cX12_layWorth 37 = .ok (.iload_n 2, 1) := by decide +kernel
theorem dX12_layWorth_38 : decode cX12_layWorth 38 = .ok (.invokevirtual 253, 3) := by decide +kernel
theorem dX12_layWorth_41 : decode cX12_layWorth 41 = .ok (.ifCond .eq 22, 3) := by decide +kernel
theorem dX12_layWorth_44 : decode cX12_layWorth 44 = .ok (.aload_n 0, 1) := by decide +kernel
theorem dX12_layWorth_45 : decode cX12_layWorth 45 = .ok (.getfield 50, 3) := by decide +kernel
theorem dX12_layWorth_48 : decode cX12_layWorth 48 = .ok (.aload_n 0, 1) := by decide +kernel
theorem dX12_layWorth_49 : decode cX12_layWorth 49 = .ok (.invokevirtual 256, 3) := by decide +kernel
theorem dX12_layWorth_52 : decode cX12_layWorth 52 = .ok (.dup2, 1) := by decide +kernel
theorem dX12_layWorth_53 : decode cX12_layWorth 53 = .ok (.iaload, 1) := by decide +kernel
theorem dX12_layWorth_54 : decode cX12_layWorth 54 = .ok (.iconst 1, 1) := by decide +kernel
theorem dX12_layWorth_55 : decode cX12_layWorth 55 = .ok (.iadd, 1) := by decide +kernel
theorem dX12_layWorth_56 : decode cX12_layWorth 56 = .ok (.iastore, 1) := by decide +kernel
theorem dX12_layWorth_57 : decode cX12_layWorth 57 = .ok (.iinc 2 1, 3) := by decide +kernel
theorem dX12_layWorth_60 : decode cX12_layWorth 60 = .ok (.goto (-24), 3) := by decide +kernel
theorem dX12_layWorth_63 : decode cX12_layWorth 63 = .ok (.iconst 0, 1) := by decide +kernel
theorem dX12_layWorth_64 : decode cX12_layWorth 64 = .ok (.istore_n 2, 1) := by decide +kernel
theorem dX12_layWorth_65 : decode cX12_layWorth 65 = .ok (.iload_n 2, 1) := by decide +kernel
theorem dX12_layWorth_66 : decode cX12_layWorth 66 = .ok (.iload_n 1, 1) := by decide +kernel
theorem dX12_layWorth_67 : decode cX12_layWorth 67 = .ok (.if_icmp .ge 47, 3) := by decide +kernel
theorem dX12_layWorth_70 : decode cX12_layWorth 70 = .ok (.iconst 0, 1) := by decide +kernel
theorem dX12_layWorth_71 : decode cX12_layWorth 71 = .ok (.istore_n 3, 1) := by decide +kernel
theorem dX12_layWorth_72 : decode cX12_layWorth 72 = .ok (.iload_n 3, 1) := by decide +kernel
theorem dX12_layWorth_73 : decode cX12_layWorth 73 = .ok (.iload_n 1, 1) := by decide +kernel
theorem dX12_layWorth_74 : decode cX12_layWorth 74 = .ok (.if_icmp .ge 34, 3) := by decide +kernel
theorem dX12_layWorth_77 : decode cX12_layWorth 77 = .ok (.aload_n 0, 1) := by decide +kernel
theorem dX12_layWorth_78 : decode cX12_layWorth 78 = .ok (.getfield 53, 3) := by decide +kernel
theorem dX12_layWorth_81 : decode cX12_layWorth 81 = .ok (.iload_n 2, 1) := by decide +kernel
theorem dX12_layWorth_82 : decode cX12_layWorth 82 = .ok (.dup2, 1) := by decide +kernel
theorem dX12_layWorth_83 : decode cX12_layWorth 83 = .ok (.iaload, 1) := by decide +kernel
theorem dX12_layWorth_84 : decode cX12_layWorth 84 = .ok (.iload_n 3, 1) := by decide +kernel
theorem dX12_layWorth_85 : decode cX12_layWorth 85 = .ok (.iload_n 2, 1) := by decide +kernel
theorem dX12_layWorth_86 : decode cX12_layWorth 86 = .ok (.iand, 1) := by decide +kernel
theorem dX12_layWorth_87 : decode cX12_layWorth 87 = .ok (.ifCond .ne 12, 3) := by decide +kernel
theorem dX12_layWorth_90 : decode cX12_layWorth 90 = .ok (.aload_n 0, 1) := by decide +kernel
theorem dX12_layWorth_91 : decode cX12_layWorth 91 = .ok (.getfield 50, 3) := by decide +kernel
theorem dX12_layWorth_94 : decode cX12_layWorth 94 = .ok (.iload_n 3, 1) := by decide +kernel
theorem dX12_layWorth_95 : decode cX12_layWorth 95 = .ok (.iaload, 1) := by decide +kernel
theorem dX12_layWorth_96 : decode cX12_layWorth 96 = .ok (.goto 4, 3) := by decide +kernel
theorem dX12_layWorth_99 : decode cX12_layWorth 99 = .ok (.iconst 0, 1) := by decide +kernel
theorem dX12_layWorth_100 : decode cX12_layWorth 100 = .ok (.iadd, 1) := by decide +kernel
theorem dX12_layWorth_101 : decode cX12_layWorth 101 = .ok (.iastore, 1) := by decide +kernel
theorem dX12_layWorth_102 : decode cX12_layWorth 102 = .ok (.iinc 3 1, 3) := by decide +kernel
theorem dX12_layWorth_105 : decode cX12_layWorth 105 = .ok (.goto (-33), 3) := by decide +kernel
theorem dX12_layWorth_108 : decode cX12_layWorth 108 = .ok (.iinc 2 1, 3) := by decide +kernel
theorem dX12_layWorth_111 : decode cX12_layWorth 111 = .ok (.goto (-46), 3) := by decide +kernel
theorem dX12_layWorth_114 : decode cX12_layWorth 114 = .ok (.return_, 1) := by decide +kernel
theorem dX12_share_0 : decode cX12_share 0 = .ok (.iload_n 1, 1) := by decide +kernel
theorem dX12_share_1 : decode cX12_share 1 = .ok (.i2l, 1) := by decide +kernel
theorem dX12_share_2 : decode cX12_share 2 = .ok (.lconst 0, 1) := by decide +kernel
theorem dX12_share_3 : decode cX12_share 3 = .ok (.aload_n 0, 1) := by decide +kernel
theorem dX12_share_4 : decode cX12_share 4 = .ok (.getfield 145, 3) := by decide +kernel
theorem dX12_share_7 : decode cX12_share 7 = .ok (.iconst 1, 1) := by decide +kernel
theorem dX12_share_8 : decode cX12_share 8 = .ok (.isub, 1) := by decide +kernel
theorem dX12_share_9 : decode cX12_share 9 = .ok (.i2l, 1) := by decide +kernel
theorem dX12_share_10 : decode cX12_share 10 = .ok (.invokestatic 69, 3) := by decide +kernel
theorem dX12_share_13 : decode cX12_share 13 = .ok (.ifCond .ne 5, 3) := by decide +kernel
theorem dX12_share_16 : decode cX12_share 16 = .ok (.iconst (-1), 1) := by decide +kernel
theorem dX12_share_17 : decode cX12_share 17 = .ok (.ireturn, 1) := by decide +kernel
theorem dX12_share_18 : decode cX12_share 18 = .ok (.aload_n 0, 1) := by decide +kernel
theorem dX12_share_19 : decode cX12_share 19 = .ok (.invokevirtual 314, 3) := by decide +kernel
theorem dX12_share_22 : decode cX12_share 22 = .ok (.iconst 0, 1) := by decide +kernel
theorem dX12_share_23 : decode cX12_share 23 = .ok (.istore_n 3, 1) := by decide +kernel
theorem dX12_share_24 : decode cX12_share 24 = .ok (.iconst 0, 1) := by decide +kernel
theorem dX12_share_25 : decode cX12_share 25 = .ok (.istore 4, 2) := by decide +kernel
theorem dX12_share_27 : decode cX12_share 27 = .ok (.iload 4, 2) := by decide +kernel
theorem dX12_share_29 : decode cX12_share 29 = .ok (.iconst 1, 1) := by decide +kernel
theorem dX12_share_30 : decode cX12_share 30 = .ok (.aload_n 0, 1) := by decide +kernel
theorem dX12_share_31 : decode cX12_share 31 = .ok (.getfield 145, 3) := by decide +kernel
theorem dX12_share_34 : decode cX12_share 34 = .ok (.ishl, 1) := by decide +kernel
theorem dX12_share_35 : decode cX12_share 35 = .ok (.if_icmp .ge 66, 3) := by decide +kernel
theorem dX12_share_38 : decode cX12_share 38 = .ok (.iload 4, 2) := by decide +kernel
theorem dX12_share_40 : decode cX12_share 40 = .ok (.iload_n 1, 1) := by decide +kernel
theorem dX12_share_41 : decode cX12_share 41 = .ok (.ishr, 1) := by decide +kernel
theorem dX12_share_42 : decode cX12_share 42 = .ok (.iconst 1, 1) := by decide +kernel
theorem dX12_share_43 : decode cX12_share 43 = .ok (.iand, 1) := by decide +kernel
theorem dX12_share_44 : decode cX12_share 44 = .ok (.ifCond .ne 51, 3) := by decide +kernel
theorem dX12_share_47 : decode cX12_share 47 = .ok (.iload 4, 2) := by decide +kernel
theorem dX12_share_49 : decode cX12_share 49 = .ok (.invokestatic 317, 3) := by decide +kernel
theorem dX12_share_52 : decode cX12_share 52 = .ok (.istore 5, 2) := by decide +kernel
theorem dX12_share_54 : decode cX12_share 54 = .ok (.iload_n 3, 1) := by decide +kernel
theorem dX12_share_55 : decode cX12_share 55 = .ok (.iload 5, 2) := by decide +kernel
theorem dX12_share_57 : decode cX12_share 57 = .ok (.invokestatic 320, 3) := by decide +kernel
theorem dX12_share_60 : decode cX12_share 60 = .ok (.aload_n 0, 1) := by decide +kernel
theorem dX12_share_61 : decode cX12_share 61 = .ok (.getfield 145, 3) := by decide +kernel
theorem dX12_share_64 : decode cX12_share 64 = .ok (.iconst 1, 1) := by decide +kernel
theorem dX12_share_65 : decode cX12_share 65 = .ok (.isub, 1) := by decide +kernel
theorem dX12_share_66 : decode cX12_share 66 = .ok (.iload 5, 2) := by decide +kernel
theorem dX12_share_68 : decode cX12_share 68 = .ok (.isub, 1) := by decide +kernel
theorem dX12_share_69 : decode cX12_share 69 = .ok (.invokestatic 320, 3) := by decide +kernel
theorem dX12_share_72 : decode cX12_share 72 = .ok (.imul, 1) := by decide +kernel
theorem dX12_share_73 : decode cX12_share 73 = .ok (.aload_n 0, 1) := by decide +kernel
theorem dX12_share_74 : decode cX12_share 74 = .ok (.getfield 53, 3) := by decide +kernel
theorem dX12_share_77 : decode cX12_share 77 = .ok (.iload 4, 2) := by decide +kernel
theorem dX12_share_79 : decode cX12_share 79 = .ok (.iaload, 1) := by decide +kernel
theorem dX12_share_80 : decode cX12_share 80 = .ok (.aload_n 0, 1) := by decide +kernel
theorem dX12_share_81 : decode cX12_share 81 = .ok (.getfield 53, 3) := by decide +kernel
theorem dX12_share_84 : decode cX12_share 84 = .ok (.iload 4, 2) := by decide +kernel
theorem dX12_share_86 : decode cX12_share 86 = .ok (.iconst 1, 1) := by decide +kernel
theorem dX12_share_87 : decode cX12_share 87 = .ok (.iload_n 1, 1) := by decide +kernel
theorem dX12_share_88 : decode cX12_share 88 = .ok (.ishl, 1) := by decide +kernel
theorem dX12_share_89 : decode cX12_share 89 = .ok (.ior, 1) := by decide +kernel
theorem dX12_share_90 : decode cX12_share 90 = .ok (.iaload, 1) := by decide +kernel
theorem dX12_share_91 : decode cX12_share 91 = .ok (.isub, 1) := by decide +kernel
theorem dX12_share_92 : decode cX12_share 92 = .ok (.imul, 1) := by decide +kernel
theorem dX12_share_93 : decode cX12_share 93 = .ok (.iadd, 1) := by decide +kernel
theorem dX12_share_94 : decode cX12_share 94 = .ok (.istore_n 3, 1) := by decide +kernel
theorem dX12_share_95 : decode cX12_share 95 = .ok (.iinc 4 1, 3) := by decide +kernel
theorem dX12_share_98 : decode cX12_share 98 = .ok (.goto (-71), 3) := by decide +kernel
theorem dX12_share_101 : decode cX12_share 101 = .ok (.iload_n 3, 1) := by decide +kernel
theorem dX12_share_102 : decode cX12_share 102 = .ok (.aload_n 0, 1) := by decide +kernel
theorem dX12_share_103 : decode cX12_share 103 = .ok (.getfield 145, 3) := by decide +kernel
theorem dX12_share_106 : decode cX12_share 106 = .ok (.invokestatic 320, 3) := by decide +kernel
theorem dX12_share_109 : decode cX12_share 109 = .ok (.iload_n 2, 1) := by decide +kernel
theorem dX12_share_110 : decode cX12_share 110 = .ok (.invokestatic 323, 3) := by decide +kernel
theorem dX12_share_113 : decode cX12_share 113 = .ok (.ireturn, 1) := by decide +kernel
theorem dX12_chance_0 : decode cX12_chance 0 = .ok (.iload_n 1, 1) := by decide +kernel
theorem dX12_chance_1 : decode cX12_chance 1 = .ok (.i2l, 1) := by decide +kernel
theorem dX12_chance_2 : decode cX12_chance 2 = .ok (.lconst 0, 1) := by decide +kernel
theorem dX12_chance_3 : decode cX12_chance 3 = .ok (.ldc2_w 327, 3) := by decide +kernel
theorem dX12_chance_6 : decode cX12_chance 6 = .ok (.invokestatic 69, 3) := by decide +kernel
theorem dX12_chance_9 : decode cX12_chance 9 = .ok (.ifCond .eq 15, 3) := by decide +kernel
theorem dX12_chance_12 : decode cX12_chance 12 = .ok (.iload_n 2, 1) := by decide +kernel
theorem dX12_chance_13 : decode cX12_chance 13 = .ok (.i2l, 1) := by decide +kernel
theorem dX12_chance_14 : decode cX12_chance 14 = .ok (.lconst 0, 1) := by decide +kernel
theorem dX12_chance_15 : decode cX12_chance 15 = .ok (.ldc2_w 329, 3) := by decide +kernel
theorem dX12_chance_18 : decode cX12_chance 18 = .ok (.invokestatic 69, 3) := by decide +kernel
theorem dX12_chance_21 : decode cX12_chance 21 = .ok (.ifCond .ne 6, 3) := by decide +kernel
theorem dX12_chance_24 : decode cX12_chance 24 = .ok (.bipush (-2), 2) := by decide +kernel
theorem dX12_chance_26 : decode cX12_chance 26 = .ok (.ireturn, 1) := by decide +kernel
theorem dX12_chance_27 : decode cX12_chance 27 = .ok (.aload_n 0, 1) := by decide +kernel
theorem dX12_chance_28 : decode cX12_chance 28 = .ok (.invokevirtual 314, 3) := by decide +kernel
theorem dX12_chance_31 : decode cX12_chance 31 = .ok (.iconst 0, 1) := by decide +kernel
theorem dX12_chance_32 : decode cX12_chance 32 = .ok (.istore 4, 2) := by decide +kernel
theorem dX12_chance_34 : decode cX12_chance 34 = .ok (.iconst 0, 1) := by decide +kernel
theorem dX12_chance_35 : decode cX12_chance 35 = .ok (.istore 5, 2) := by decide +kernel
theorem dX12_chance_37 : decode cX12_chance 37 = .ok (.iload 5, 2) := by decide +kernel
theorem dX12_chance_39 : decode cX12_chance 39 = .ok (.iconst 1, 1) := by decide +kernel
theorem dX12_chance_40 : decode cX12_chance 40 = .ok (.aload_n 0, 1) := by decide +kernel
theorem dX12_chance_41 : decode cX12_chance 41 = .ok (.getfield 145, 3) := by decide +kernel
theorem dX12_chance_44 : decode cX12_chance 44 = .ok (.ishl, 1) := by decide +kernel
theorem dX12_chance_45 : decode cX12_chance 45 = .ok (.if_icmp .ge 56, 3) := by decide +kernel
theorem dX12_chance_48 : decode cX12_chance 48 = .ok (.iload 4, 2) := by decide +kernel
theorem dX12_chance_50 : decode cX12_chance 50 = .ok (.aload_n 0, 1) := by decide +kernel
theorem dX12_chance_51 : decode cX12_chance 51 = .ok (.getfield 53, 3) := by decide +kernel
theorem dX12_chance_54 : decode cX12_chance 54 = .ok (.iload 5, 2) := by decide +kernel
theorem dX12_chance_56 : decode cX12_chance 56 = .ok (.iaload, 1) := by decide +kernel
theorem dX12_chance_57 : decode cX12_chance 57 = .ok (.iload_n 1, 1) := by decide +kernel
theorem dX12_chance_58 : decode cX12_chance 58 = .ok (.if_icmp .lt 33, 3) := by decide +kernel
theorem dX12_chance_61 : decode cX12_chance 61 = .ok (.bipush 10, 2) := by decide +kernel
theorem dX12_chance_63 : decode cX12_chance 63 = .ok (.iload_n 2, 1) := by decide +kernel
theorem dX12_chance_64 : decode cX12_chance 64 = .ok (.isub, 1) := by decide +kernel
theorem dX12_chance_65 : decode cX12_chance 65 = .ok (.iload 5, 2) := by decide +kernel
theorem dX12_chance_67 : decode cX12_chance 67 = .ok (.invokestatic 317, 3) := by decide +kernel
theorem dX12_chance_70 : decode cX12_chance 70 = .ok (.invokestatic 331, 3) := by decide +kernel
theorem dX12_chance_73 : decode cX12_chance 73 = .ok (.iload_n 2, 1) := by decide +kernel
theorem dX12_chance_74 : decode cX12_chance 74 = .ok (.aload_n 0, 1) := by decide +kernel
theorem dX12_chance_75 : decode cX12_chance 75 = .ok (.getfield 145, 3) := by decide +kernel
theorem dX12_chance_78 : decode cX12_chance 78 = .ok (.iload 5, 2) := by decide +kernel
theorem dX12_chance_80 : decode cX12_chance 80 = .ok (.invokestatic 317, 3) := by decide +kernel
theorem dX12_chance_83 : decode cX12_chance 83 = .ok (.isub, 1) := by decide +kernel
theorem dX12_chance_84 : decode cX12_chance 84 = .ok (.invokestatic 331, 3) := by decide +kernel
theorem dX12_chance_87 : decode cX12_chance 87 = .ok (.imul, 1) := by decide +kernel
theorem dX12_chance_88 : decode cX12_chance 88 = .ok (.goto 4, 3) := by decide +kernel
theorem dX12_chance_91 : decode cX12_chance 91 = .ok (.iconst 0, 1) := by decide +kernel
theorem dX12_chance_92 : decode cX12_chance 92 = .ok (.iadd, 1) := by decide +kernel
theorem dX12_chance_93 : decode cX12_chance 93 = .ok (.istore 4, 2) := by decide +kernel
theorem dX12_chance_95 : decode cX12_chance 95 = .ok (.iinc 5 1, 3) := by decide +kernel
theorem dX12_chance_98 : decode cX12_chance 98 = .ok (.goto (-61), 3) := by decide +kernel
theorem dX12_chance_101 : decode cX12_chance 101 = .ok (.iload 4, 2) := by decide +kernel
theorem dX12_chance_103 : decode cX12_chance 103 = .ok (.bipush 10, 2) := by decide +kernel
theorem dX12_chance_105 : decode cX12_chance 105 = .ok (.aload_n 0, 1) := by decide +kernel
theorem dX12_chance_106 : decode cX12_chance 106 = .ok (.getfield 145, 3) := by decide +kernel
theorem dX12_chance_109 : decode cX12_chance 109 = .ok (.invokestatic 331, 3) := by decide +kernel
theorem dX12_chance_112 : decode cX12_chance 112 = .ok (.iload_n 3, 1) := by decide +kernel
theorem dX12_chance_113 : decode cX12_chance 113 = .ok (.invokestatic 323, 3) := by decide +kernel
theorem dX12_chance_116 : decode cX12_chance 116 = .ok (.ireturn, 1) := by decide +kernel
theorem dX12_seed_0 : decode cX12_seed 0 = .ok (.aload_n 0, 1) := by decide +kernel
theorem dX12_seed_1 : decode cX12_seed 1 = .ok (.getfield 334, 3) := by decide +kernel
theorem dX12_seed_4 : decode cX12_seed 4 = .ok (.lstore_n 3, 1) := by decide +kernel
theorem dX12_seed_5 : decode cX12_seed 5 = .ok (.aload_n 0, 1) := by decide +kernel
theorem dX12_seed_6 : decode cX12_seed 6 = .ok (.lload_n 1, 1) := by decide +kernel
theorem dX12_seed_7 : decode cX12_seed 7 = .ok (.putfield 334, 3) := by decide +kernel
theorem dX12_seed_10 : decode cX12_seed 10 = .ok (.lload_n 3, 1) := by decide +kernel
theorem dX12_seed_11 : decode cX12_seed 11 = .ok (.lreturn, 1) := by decide +kernel
theorem dX12_drawOne_0 : decode cX12_drawOne 0 = .ok (.aload_n 0, 1) := by decide +kernel
theorem dX12_drawOne_1 : decode cX12_drawOne 1 = .ok (.aload_n 0, 1) := by decide +kernel
theorem dX12_drawOne_2 : decode cX12_drawOne 2 = .ok (.getfield 25, 3) := by decide +kernel
theorem dX12_drawOne_5 : decode cX12_drawOne 5 = .ok (.invokevirtual 176, 3) := by decide +kernel
theorem dX12_drawOne_8 : decode cX12_drawOne 8 = .ok (.bipush (-9), 2) := by decide +kernel
theorem dX12_drawOne_10 : decode cX12_drawOne 10 = .ok (.if_icmp .eq 30, 3) := by decide +kernel
theorem dX12_drawOne_13 : decode cX12_drawOne 13 = .ok (.aload_n 0, 1) := by decide +kernel
theorem dX12_drawOne_14 : decode cX12_drawOne 14 = .ok (.aload_n 0, 1) := by decide +kernel
theorem dX12_drawOne_15 : decode cX12_drawOne 15 = .ok (.getfield 25, 3) := by decide +kernel
theorem dX12_drawOne_18 : decode cX12_drawOne 18 = .ok (.invokevirtual 289, 3) := by decide +kernel
theorem dX12_drawOne_21 : decode cX12_drawOne 21 = .ok (.ifCond .eq 14, 3) := by decide +kernel
theorem dX12_drawOne_24 : decode cX12_drawOne 24 = .ok (.aload_n 0, 1) := by decide +kernel
theorem dX12_drawOne_25 : decode cX12_drawOne 25 = .ok (.aload_n 0, 1) := by decide +kernel
theorem dX12_drawOne_26 : decode cX12_drawOne 26 = .ok (.getfield 25, 3) := by decide +kernel
theorem dX12_drawOne_29 : decode cX12_drawOne 29 = .ok (.invokevirtual 238, 3) := by decide +kernel
theorem dX12_drawOne_32 : decode cX12_drawOne 32 = .ok (.goto 4, 3) := by decide +kernel
theorem dX12_drawOne_35 : decode cX12_drawOne 35 = .ok (.iconst 0, 1) := by decide +kernel
theorem dX12_drawOne_36 : decode cX12_drawOne 36 = .ok (.istore_n 2, 1) := by decide +kernel
theorem dX12_drawOne_37 : decode cX12_drawOne 37 = .ok (.goto 46, 3) := by decide +kernel
theorem dX12_drawOne_40 : decode cX12_drawOne 40 = .ok (.iload_n 1, 1) := by decide +kernel
theorem dX12_drawOne_41 : decode cX12_drawOne 41 = .ok (.aload_n 0, 1) := by decide +kernel
theorem dX12_drawOne_42 : decode cX12_drawOne 42 = .ok (.getfield 65, 3) := by decide +kernel
theorem dX12_drawOne_45 : decode cX12_drawOne 45 = .ok (.irem, 1) := by decide +kernel
theorem dX12_drawOne_46 : decode cX12_drawOne 46 = .ok (.iload_n 1, 1) := by decide +kernel
theorem dX12_drawOne_47 : decode cX12_drawOne 47 = .ok (.iconst 4, 1) := by decide +kernel
theorem dX12_drawOne_48 : decode cX12_drawOne 48 = .ok (.idiv, 1) := by decide +kernel
theorem dX12_drawOne_49 : decode cX12_drawOne 49 = .ok (.iconst 2, 1) := by decide +kernel
theorem dX12_drawOne_50 : decode cX12_drawOne 50 = .ok (.irem, 1) := by decide +kernel
theorem dX12_drawOne_51 : decode cX12_drawOne 51 = .ok (.iload_n 1, 1) := by decide +kernel
theorem dX12_drawOne_52 : decode cX12_drawOne 52 = .ok (.bipush 8, 2) := by decide +kernel
theorem dX12_drawOne_54 : decode cX12_drawOne 54 = .ok (.idiv, 1) := by decide +kernel
theorem dX12_drawOne_55 : decode cX12_drawOne 55 = .ok (.bipush 10, 2) := by decide +kernel
theorem dX12_drawOne_57 : decode cX12_drawOne 57 = .ok (.irem, 1) := by decide +kernel
theorem dX12_drawOne_58 : decode cX12_drawOne 58 = .ok (.invokestatic 130, 3) := by decide +kernel
theorem dX12_drawOne_61 : decode cX12_drawOne 61 = .ok (.istore_n 2, 1) := by decide +kernel
theorem dX12_drawOne_62 : decode cX12_drawOne 62 = .ok (.aload_n 0, 1) := by decide +kernel
theorem dX12_drawOne_63 : decode cX12_drawOne 63 = .ok (.aload_n 0, 1) := by decide +kernel
theorem dX12_drawOne_64 : decode cX12_drawOne 64 = .ok (.getfield 25, 3) := by decide +kernel
theorem dX12_drawOne_67 : decode cX12_drawOne 67 = .ok (.iload_n 2, 1) := by decide +kernel
theorem dX12_drawOne_68 : decode cX12_drawOne 68 = .ok (.invokevirtual 283, 3) := by decide +kernel
theorem dX12_drawOne_71 : decode cX12_drawOne 71 = .ok (.ifCond .eq 12, 3) := by decide +kernel
theorem dX12_drawOne_74 : decode cX12_drawOne 74 = .ok (.aload_n 0, 1) := by decide +kernel
theorem dX12_drawOne_75 : decode cX12_drawOne 75 = .ok (.aload_n 0, 1) := by decide +kernel
theorem dX12_drawOne_76 : decode cX12_drawOne 76 = .ok (.getfield 25, 3) := by decide +kernel
theorem dX12_drawOne_79 : decode cX12_drawOne 79 = .ok (.iload_n 2, 1) := by decide +kernel
theorem dX12_drawOne_80 : decode cX12_drawOne 80 = .ok (.invokevirtual 241, 3) := by decide +kernel
theorem dX12_drawOne_83 : decode cX12_drawOne 83 = .ok (.return_, 1) := by decide +kernel
theorem dX12_drawn_0 : decode cX12_drawn 0 = .ok (.iload_n 1, 1) := by decide +kernel
theorem dX12_drawn_1 : decode cX12_drawn 1 = .ok (.i2l, 1) := by decide +kernel
theorem dX12_drawn_2 : decode cX12_drawn 2 = .ok (.lconst 1, 1) := by decide +kernel
theorem dX12_drawn_3 : decode cX12_drawn 3 = .ok (.ldc2_w 329, 3) := by decide +kernel
theorem dX12_drawn_6 : decode cX12_drawn 6 = .ok (.invokestatic 69, 3) := by decide +kernel
theorem dX12_drawn_9 : decode cX12_drawn 9 = .ok (.ifCond .ne 6, 3) := by decide +kernel
theorem dX12_drawn_12 : decode cX12_drawn 12 = .ok (.bipush (-2), 2) := by decide +kernel
theorem dX12_drawn_14 : decode cX12_drawn 14 = .ok (.ireturn, 1) := by decide +kernel
theorem dX12_drawn_15 : decode cX12_drawn 15 = .ok (.aload_n 0, 1) := by decide +kernel
theorem dX12_drawn_16 : decode cX12_drawn 16 = .ok (.getfield 22, 3) := by decide +kernel
theorem dX12_drawn_19 : decode cX12_drawn 19 = .ok (.aload_n 0, 1) := by decide +kernel
theorem dX12_drawn_20 : decode cX12_drawn 20 = .ok (.getfield 25, 3) := by decide +kernel
theorem dX12_drawn_23 : decode cX12_drawn 23 = .ok (.invokestatic 307, 3) := by decide +kernel
theorem dX12_drawn_26 : decode cX12_drawn 26 = .ok (.iconst 0, 1) := by decide +kernel
theorem dX12_drawn_27 : decode cX12_drawn 27 = .ok (.istore_n 2, 1) := by decide +kernel
theorem dX12_drawn_28 : decode cX12_drawn 28 = .ok (.iconst 0, 1) := by decide +kernel
theorem dX12_drawn_29 : decode cX12_drawn 29 = .ok (.istore_n 3, 1) := by decide +kernel
theorem dX12_drawn_30 : decode cX12_drawn 30 = .ok (.iload_n 3, 1) := by decide +kernel
theorem dX12_drawn_31 : decode cX12_drawn 31 = .ok (.iload_n 1, 1) := by decide +kernel
theorem dX12_drawn_32 : decode cX12_drawn 32 = .ok (.if_icmp .ge 46, 3) := by decide +kernel
theorem dX12_drawn_35 : decode cX12_drawn 35 = .ok (.aload_n 0, 1) := by decide +kernel
theorem dX12_drawn_36 : decode cX12_drawn 36 = .ok (.aload_n 0, 1) := by decide +kernel
theorem dX12_drawn_37 : decode cX12_drawn 37 = .ok (.getfield 334, 3) := by decide +kernel
theorem dX12_drawn_40 : decode cX12_drawn 40 = .ok (.ldc2_w 338, 3) := by decide +kernel
theorem dX12_drawn_43 : decode cX12_drawn 43 = .ok (.lmul, 1) := by decide +kernel
theorem dX12_drawn_44 : decode cX12_drawn 44 = .ok (.ldc2_w 340, 3) := by decide +kernel
theorem dX12_drawn_47 : decode cX12_drawn 47 = .ok (.ladd, 1) := by decide +kernel
theorem dX12_drawn_48 : decode cX12_drawn 48 = .ok (.putfield 334, 3) := by decide +kernel
theorem dX12_drawn_51 : decode cX12_drawn 51 = .ok (.aload_n 0, 1) := by decide +kernel
theorem dX12_drawn_52 : decode cX12_drawn 52 = .ok (.aload_n 0, 1) := by decide +kernel
theorem dX12_drawn_53 : decode cX12_drawn 53 = .ok (.getfield 334, 3) := by decide +kernel
theorem dX12_drawn_56 : decode cX12_drawn 56 = .ok (.bipush 33, 2) := by decide +kernel
theorem dX12_drawn_58 : decode cX12_drawn 58 = .ok (.lushr, 1) := by decide +kernel
theorem dX12_drawn_59 : decode cX12_drawn 59 = .ok (.l2i, 1) := by decide +kernel
theorem dX12_drawn_60 : decode cX12_drawn 60 = .ok (.invokevirtual 342, 3) := by decide +kernel
theorem dX12_drawn_63 : decode cX12_drawn 63 = .ok (.iload_n 2, 1) := by decide +kernel
theorem dX12_drawn_64 : decode cX12_drawn 64 = .ok (.aload_n 0, 1) := by decide +kernel
theorem dX12_drawn_65 : decode cX12_drawn 65 = .ok (.getfield 25, 3) := by decide +kernel
theorem dX12_drawn_68 : decode cX12_drawn 68 = .ok (.iconst 0, 1) := by decide +kernel
theorem dX12_drawn_69 : decode cX12_drawn 69 = .ok (.iaload, 1) := by decide +kernel
theorem dX12_drawn_70 : decode cX12_drawn 70 = .ok (.iadd, 1) := by decide +kernel
theorem dX12_drawn_71 : decode cX12_drawn 71 = .ok (.istore_n 2, 1) := by decide +kernel
theorem dX12_drawn_72 : decode cX12_drawn 72 = .ok (.iinc 3 1, 3) := by decide +kernel
theorem dX12_drawn_75 : decode cX12_drawn 75 = .ok (.goto (-45), 3) := by decide +kernel
theorem dX12_drawn_78 : decode cX12_drawn 78 = .ok (.iload_n 2, 1) := by decide +kernel
theorem dX12_drawn_79 : decode cX12_drawn 79 = .ok (.ireturn, 1) := by decide +kernel
theorem dX12_keep_0 : decode cX12_keep 0 = .ok (.iload_n 1, 1) := by decide +kernel
theorem dX12_keep_1 : decode cX12_keep 1 = .ok (.i2l, 1) := by decide +kernel
theorem dX12_keep_2 : decode cX12_keep 2 = .ok (.lconst 0, 1) := by decide +kernel
theorem dX12_keep_3 : decode cX12_keep 3 = .ok (.lconst 1, 1) := by decide +kernel
theorem dX12_keep_4 : decode cX12_keep 4 = .ok (.invokestatic 69, 3) := by decide +kernel
theorem dX12_keep_7 : decode cX12_keep 7 = .ok (.ifCond .ne 5, 3) := by decide +kernel
theorem dX12_keep_10 : decode cX12_keep 10 = .ok (.iconst (-1), 1) := by decide +kernel
theorem dX12_keep_11 : decode cX12_keep 11 = .ok (.ireturn, 1) := by decide +kernel
theorem dX12_keep_12 : decode cX12_keep 12 = .ok (.aload_n 0, 1) := by decide +kernel
theorem dX12_keep_13 : decode cX12_keep 13 = .ok (.getfield 34, 3) := by decide +kernel
theorem dX12_keep_16 : decode cX12_keep 16 = .ok (.iload_n 1, 1) := by decide +kernel
theorem dX12_keep_17 : decode cX12_keep 17 = .ok (.iconst 1, 1) := by decide +kernel
theorem dX12_keep_18 : decode cX12_keep 18 = .ok (.bastore, 1) := by decide +kernel
theorem dX12_keep_19 : decode cX12_keep 19 = .ok (.iconst 0, 1) := by decide +kernel
theorem dX12_keep_20 : decode cX12_keep 20 = .ok (.istore_n 2, 1) := by decide +kernel
theorem dX12_keep_21 : decode cX12_keep 21 = .ok (.iload_n 2, 1) := by decide +kernel
theorem dX12_keep_22 : decode cX12_keep 22 = .ok (.sipush 471, 3) := by decide +kernel
theorem dX12_keep_25 : decode cX12_keep 25 = .ok (.if_icmp .ge 27, 3) := by decide +kernel
theorem dX12_keep_28 : decode cX12_keep 28 = .ok (.aload_n 0, 1) := by decide +kernel
theorem dX12_keep_29 : decode cX12_keep 29 = .ok (.getfield 31, 3) := by decide +kernel
theorem dX12_keep_32 : decode cX12_keep 32 = .ok (.sipush 471, 3) := by decide +kernel
theorem dX12_keep_35 : decode cX12_keep 35 = .ok (.iload_n 1, 1) := by decide +kernel
theorem dX12_keep_36 : decode cX12_keep 36 = .ok (.imul, 1) := by decide +kernel
theorem dX12_keep_37 : decode cX12_keep 37 = .ok (.iload_n 2, 1) := by decide +kernel
theorem dX12_keep_38 : decode cX12_keep 38 = .ok (.iadd, 1) := by decide +kernel
theorem dX12_keep_39 : decode cX12_keep 39 = .ok (.aload_n 0, 1) := by decide +kernel
theorem dX12_keep_40 : decode cX12_keep 40 = .ok (.getfield 22, 3) := by decide +kernel
theorem dX12_keep_43 : decode cX12_keep 43 = .ok (.iload_n 2, 1) := by decide +kernel
theorem dX12_keep_44 : decode cX12_keep 44 = .ok (.iaload, 1) := by decide +kernel
theorem dX12_keep_45 : decode cX12_keep 45 = .ok (.iastore, 1) := by decide +kernel
theorem dX12_keep_46 : decode cX12_keep 46 = .ok (.iinc 2 1, 3) := by decide +kernel
theorem dX12_keep_49 : decode cX12_keep 49 = .ok (.goto (-28), 3) := by decide +kernel
theorem dX12_keep_52 : decode cX12_keep 52 = .ok (.aload_n 0, 1) := by decide +kernel
theorem dX12_keep_53 : decode cX12_keep 53 = .ok (.getfield 22, 3) := by decide +kernel
theorem dX12_keep_56 : decode cX12_keep 56 = .ok (.iconst 0, 1) := by decide +kernel
theorem dX12_keep_57 : decode cX12_keep 57 = .ok (.iaload, 1) := by decide +kernel
theorem dX12_keep_58 : decode cX12_keep 58 = .ok (.ireturn, 1) := by decide +kernel
theorem dX12_again_0 : decode cX12_again 0 = .ok (.iload_n 1, 1) := by decide +kernel
theorem dX12_again_1 : decode cX12_again 1 = .ok (.i2l, 1) := by decide +kernel
theorem dX12_again_2 : decode cX12_again 2 = .ok (.lconst 0, 1) := by decide +kernel
theorem dX12_again_3 : decode cX12_again 3 = .ok (.lconst 1, 1) := by decide +kernel
theorem dX12_again_4 : decode cX12_again 4 = .ok (.invokestatic 69, 3) := by decide +kernel
theorem dX12_again_7 : decode cX12_again 7 = .ok (.ifCond .ne 5, 3) := by decide +kernel
theorem dX12_again_10 : decode cX12_again 10 = .ok (.iconst (-1), 1) := by decide +kernel
theorem dX12_again_11 : decode cX12_again 11 = .ok (.ireturn, 1) := by decide +kernel
theorem dX12_again_12 : decode cX12_again 12 = .ok (.aload_n 0, 1) := by decide +kernel
theorem dX12_again_13 : decode cX12_again 13 = .ok (.getfield 34, 3) := by decide +kernel
theorem dX12_again_16 : decode cX12_again 16 = .ok (.iload_n 1, 1) := by decide +kernel
theorem dX12_again_17 : decode cX12_again 17 = .ok (.baload, 1) := by decide +kernel
theorem dX12_again_18 : decode cX12_again 18 = .ok (.ifCond .ne 6, 3) := by decide +kernel
theorem dX12_again_21 : decode cX12_again 21 = .ok (.bipush (-3), 2) := by decide +kernel
theorem dX12_again_23 : decode cX12_again 23 = .ok (.ireturn, 1) := by decide +kernel
theorem dX12_again_24 : decode cX12_again 24 = .ok (.iconst 0, 1) := by decide +kernel
theorem dX12_again_25 : decode cX12_again 25 = .ok (.istore_n 2, 1) := by decide +kernel
theorem dX12_again_26 : decode cX12_again 26 = .ok (.iload_n 2, 1) := by decide +kernel
theorem dX12_again_27 : decode cX12_again 27 = .ok (.sipush 471, 3) := by decide +kernel
theorem dX12_again_30 : decode cX12_again 30 = .ok (.if_icmp .ge 27, 3) := by decide +kernel
theorem dX12_again_33 : decode cX12_again 33 = .ok (.aload_n 0, 1) := by decide +kernel
theorem dX12_again_34 : decode cX12_again 34 = .ok (.getfield 22, 3) := by decide +kernel
theorem dX12_again_37 : decode cX12_again 37 = .ok (.iload_n 2, 1) := by decide +kernel
theorem dX12_again_38 : decode cX12_again 38 = .ok (.aload_n 0, 1) := by decide +kernel
theorem dX12_again_39 : decode cX12_again 39 = .ok (.getfield 31, 3) := by decide +kernel
theorem dX12_again_42 : decode cX12_again 42 = .ok (.sipush 471, 3) := by decide +kernel
theorem dX12_again_45 : decode cX12_again 45 = .ok (.iload_n 1, 1) := by decide +kernel
theorem dX12_again_46 : decode cX12_again 46 = .ok (.imul, 1) := by decide +kernel
theorem dX12_again_47 : decode cX12_again 47 = .ok (.iload_n 2, 1) := by decide +kernel
theorem dX12_again_48 : decode cX12_again 48 = .ok (.iadd, 1) := by decide +kernel
theorem dX12_again_49 : decode cX12_again 49 = .ok (.iaload, 1) := by decide +kernel
theorem dX12_again_50 : decode cX12_again 50 = .ok (.iastore, 1) := by decide +kernel
theorem dX12_again_51 : decode cX12_again 51 = .ok (.iinc 2 1, 3) := by decide +kernel
theorem dX12_again_54 : decode cX12_again 54 = .ok (.goto (-28), 3) := by decide +kernel
theorem dX12_again_57 : decode cX12_again 57 = .ok (.aload_n 0, 1) := by decide +kernel
theorem dX12_again_58 : decode cX12_again 58 = .ok (.iconst 0, 1) := by decide +kernel
theorem dX12_again_59 : decode cX12_again 59 = .ok (.putfield 195, 3) := by decide +kernel
theorem dX12_again_62 : decode cX12_again 62 = .ok (.aload_n 0, 1) := by decide +kernel
theorem dX12_again_63 : decode cX12_again 63 = .ok (.getfield 22, 3) := by decide +kernel
theorem dX12_again_66 : decode cX12_again 66 = .ok (.iconst 0, 1) := by decide +kernel
theorem dX12_again_67 : decode cX12_again 67 = .ok (.iaload, 1) := by decide +kernel
theorem dX12_again_68 : decode cX12_again 68 = .ok (.ireturn, 1) := by decide +kernel
theorem dJ6_bitCount_0f7a4_0 : decode cJ6_bitCount_0f7a4 0 = .ok (.iload_n 0, 1) := by decide +kernel
theorem dJ6_bitCount_0f7a4_1 : decode cJ6_bitCount_0f7a4 1 = .ok (.iload_n 0, 1) := by decide +kernel
theorem dJ6_bitCount_0f7a4_2 : decode cJ6_bitCount_0f7a4 2 = .ok (.iconst 1, 1) := by decide +kernel
theorem dJ6_bitCount_0f7a4_3 : decode cJ6_bitCount_0f7a4 3 = .ok (.iushr, 1) := by decide +kernel
theorem dJ6_bitCount_0f7a4_4 : decode cJ6_bitCount_0f7a4 4 = .ok (.ldc_w 265, 3) := by decide +kernel
theorem dJ6_bitCount_0f7a4_7 : decode cJ6_bitCount_0f7a4 7 = .ok (.iand, 1) := by decide +kernel
theorem dJ6_bitCount_0f7a4_8 : decode cJ6_bitCount_0f7a4 8 = .ok (.isub, 1) := by decide +kernel
theorem dJ6_bitCount_0f7a4_9 : decode cJ6_bitCount_0f7a4 9 = .ok (.istore_n 0, 1) := by decide +kernel
theorem dJ6_bitCount_0f7a4_10 : decode cJ6_bitCount_0f7a4 10 = .ok (.iload_n 0, 1) := by decide +kernel
theorem dJ6_bitCount_0f7a4_11 : decode cJ6_bitCount_0f7a4 11 = .ok (.ldc_w 266, 3) := by decide +kernel
theorem dJ6_bitCount_0f7a4_14 : decode cJ6_bitCount_0f7a4 14 = .ok (.iand, 1) := by decide +kernel
theorem dJ6_bitCount_0f7a4_15 : decode cJ6_bitCount_0f7a4 15 = .ok (.iload_n 0, 1) := by decide +kernel
theorem dJ6_bitCount_0f7a4_16 : decode cJ6_bitCount_0f7a4 16 = .ok (.iconst 2, 1) := by decide +kernel
theorem dJ6_bitCount_0f7a4_17 : decode cJ6_bitCount_0f7a4 17 = .ok (.iushr, 1) := by decide +kernel
theorem dJ6_bitCount_0f7a4_18 : decode cJ6_bitCount_0f7a4 18 = .ok (.ldc_w 266, 3) := by decide +kernel
theorem dJ6_bitCount_0f7a4_21 : decode cJ6_bitCount_0f7a4 21 = .ok (.iand, 1) := by decide +kernel
theorem dJ6_bitCount_0f7a4_22 : decode cJ6_bitCount_0f7a4 22 = .ok (.iadd, 1) := by decide +kernel
theorem dJ6_bitCount_0f7a4_23 : decode cJ6_bitCount_0f7a4 23 = .ok (.istore_n 0, 1) := by decide +kernel
theorem dJ6_bitCount_0f7a4_24 : decode cJ6_bitCount_0f7a4 24 = .ok (.iload_n 0, 1) := by decide +kernel
theorem dJ6_bitCount_0f7a4_25 : decode cJ6_bitCount_0f7a4 25 = .ok (.iload_n 0, 1) := by decide +kernel
theorem dJ6_bitCount_0f7a4_26 : decode cJ6_bitCount_0f7a4 26 = .ok (.iconst 4, 1) := by decide +kernel
theorem dJ6_bitCount_0f7a4_27 : decode cJ6_bitCount_0f7a4 27 = .ok (.iushr, 1) := by decide +kernel
theorem dJ6_bitCount_0f7a4_28 : decode cJ6_bitCount_0f7a4 28 = .ok (.iadd, 1) := by decide +kernel
theorem dJ6_bitCount_0f7a4_29 : decode cJ6_bitCount_0f7a4 29 = .ok (.ldc_w 267, 3) := by decide +kernel
theorem dJ6_bitCount_0f7a4_32 : decode cJ6_bitCount_0f7a4 32 = .ok (.iand, 1) := by decide +kernel
theorem dJ6_bitCount_0f7a4_33 : decode cJ6_bitCount_0f7a4 33 = .ok (.istore_n 0, 1) := by decide +kernel
theorem dJ6_bitCount_0f7a4_34 : decode cJ6_bitCount_0f7a4 34 = .ok (.iload_n 0, 1) := by decide +kernel
theorem dJ6_bitCount_0f7a4_35 : decode cJ6_bitCount_0f7a4 35 = .ok (.iload_n 0, 1) := by decide +kernel
theorem dJ6_bitCount_0f7a4_36 : decode cJ6_bitCount_0f7a4 36 = .ok (.bipush 8, 2) := by decide +kernel
theorem dJ6_bitCount_0f7a4_38 : decode cJ6_bitCount_0f7a4 38 = .ok (.iushr, 1) := by decide +kernel
theorem dJ6_bitCount_0f7a4_39 : decode cJ6_bitCount_0f7a4 39 = .ok (.iadd, 1) := by decide +kernel
theorem dJ6_bitCount_0f7a4_40 : decode cJ6_bitCount_0f7a4 40 = .ok (.istore_n 0, 1) := by decide +kernel
theorem dJ6_bitCount_0f7a4_41 : decode cJ6_bitCount_0f7a4 41 = .ok (.iload_n 0, 1) := by decide +kernel
theorem dJ6_bitCount_0f7a4_42 : decode cJ6_bitCount_0f7a4 42 = .ok (.iload_n 0, 1) := by decide +kernel
theorem dJ6_bitCount_0f7a4_43 : decode cJ6_bitCount_0f7a4 43 = .ok (.bipush 16, 2) := by decide +kernel
theorem dJ6_bitCount_0f7a4_45 : decode cJ6_bitCount_0f7a4 45 = .ok (.iushr, 1) := by decide +kernel
theorem dJ6_bitCount_0f7a4_46 : decode cJ6_bitCount_0f7a4 46 = .ok (.iadd, 1) := by decide +kernel
theorem dJ6_bitCount_0f7a4_47 : decode cJ6_bitCount_0f7a4 47 = .ok (.istore_n 0, 1) := by decide +kernel
theorem dJ6_bitCount_0f7a4_48 : decode cJ6_bitCount_0f7a4 48 = .ok (.iload_n 0, 1) := by decide +kernel
theorem dJ6_bitCount_0f7a4_49 : decode cJ6_bitCount_0f7a4 49 = .ok (.bipush 63, 2) := by decide +kernel
theorem dJ6_bitCount_0f7a4_51 : decode cJ6_bitCount_0f7a4 51 = .ok (.iand, 1) := by decide +kernel
theorem dJ6_bitCount_0f7a4_52 : decode cJ6_bitCount_0f7a4 52 = .ok (.ireturn, 1) := by decide +kernel
theorem dJ9_floorDiv_7cf53_0 : decode cJ9_floorDiv_7cf53 0 = .ok (.iload_n 0, 1) := by decide +kernel
theorem dJ9_floorDiv_7cf53_1 : decode cJ9_floorDiv_7cf53 1 = .ok (.iload_n 1, 1) := by decide +kernel
theorem dJ9_floorDiv_7cf53_2 : decode cJ9_floorDiv_7cf53 2 = .ok (.idiv, 1) := by decide +kernel
theorem dJ9_floorDiv_7cf53_3 : decode cJ9_floorDiv_7cf53 3 = .ok (.istore_n 2, 1) := by decide +kernel
theorem dJ9_floorDiv_7cf53_4 : decode cJ9_floorDiv_7cf53 4 = .ok (.iload_n 0, 1) := by decide +kernel
theorem dJ9_floorDiv_7cf53_5 : decode cJ9_floorDiv_7cf53 5 = .ok (.iload_n 1, 1) := by decide +kernel
theorem dJ9_floorDiv_7cf53_6 : decode cJ9_floorDiv_7cf53 6 = .ok (.ixor, 1) := by decide +kernel
theorem dJ9_floorDiv_7cf53_7 : decode cJ9_floorDiv_7cf53 7 = .ok (.ifCond .ge 14, 3) := by decide +kernel
theorem dJ9_floorDiv_7cf53_10 : decode cJ9_floorDiv_7cf53 10 = .ok (.iload_n 2, 1) := by decide +kernel
theorem dJ9_floorDiv_7cf53_11 : decode cJ9_floorDiv_7cf53 11 = .ok (.iload_n 1, 1) := by decide +kernel
theorem dJ9_floorDiv_7cf53_12 : decode cJ9_floorDiv_7cf53 12 = .ok (.imul, 1) := by decide +kernel
theorem dJ9_floorDiv_7cf53_13 : decode cJ9_floorDiv_7cf53 13 = .ok (.iload_n 0, 1) := by decide +kernel
theorem dJ9_floorDiv_7cf53_14 : decode cJ9_floorDiv_7cf53 14 = .ok (.if_icmp .eq 7, 3) := by decide +kernel
theorem dJ9_floorDiv_7cf53_17 : decode cJ9_floorDiv_7cf53 17 = .ok (.iload_n 2, 1) := by decide +kernel
theorem dJ9_floorDiv_7cf53_18 : decode cJ9_floorDiv_7cf53 18 = .ok (.iconst 1, 1) := by decide +kernel
theorem dJ9_floorDiv_7cf53_19 : decode cJ9_floorDiv_7cf53 19 = .ok (.isub, 1) := by decide +kernel
theorem dJ9_floorDiv_7cf53_20 : decode cJ9_floorDiv_7cf53 20 = .ok (.ireturn, 1) := by decide +kernel
theorem dJ9_floorDiv_7cf53_21 : decode cJ9_floorDiv_7cf53 21 = .ok (.iload_n 2, 1) := by decide +kernel
theorem dJ9_floorDiv_7cf53_22 : decode cJ9_floorDiv_7cf53 22 = .ok (.ireturn, 1) := by decide +kernel
theorem dJ9_max_7cf53_0 : decode cJ9_max_7cf53 0 = .ok (.iload_n 0, 1) := by decide +kernel
theorem dJ9_max_7cf53_1 : decode cJ9_max_7cf53 1 = .ok (.iload_n 1, 1) := by decide +kernel
theorem dJ9_max_7cf53_2 : decode cJ9_max_7cf53 2 = .ok (.if_icmp .lt 7, 3) := by decide +kernel
theorem dJ9_max_7cf53_5 : decode cJ9_max_7cf53 5 = .ok (.iload_n 0, 1) := by decide +kernel
theorem dJ9_max_7cf53_6 : decode cJ9_max_7cf53 6 = .ok (.goto 4, 3) := by decide +kernel
theorem dJ9_max_7cf53_9 : decode cJ9_max_7cf53 9 = .ok (.iload_n 1, 1) := by decide +kernel
theorem dJ9_max_7cf53_10 : decode cJ9_max_7cf53 10 = .ok (.ireturn, 1) := by decide +kernel
theorem dJ9_min_7cf53_0 : decode cJ9_min_7cf53 0 = .ok (.iload_n 0, 1) := by decide +kernel
theorem dJ9_min_7cf53_1 : decode cJ9_min_7cf53 1 = .ok (.iload_n 1, 1) := by decide +kernel
theorem dJ9_min_7cf53_2 : decode cJ9_min_7cf53 2 = .ok (.if_icmp .gt 7, 3) := by decide +kernel
theorem dJ9_min_7cf53_5 : decode cJ9_min_7cf53 5 = .ok (.iload_n 0, 1) := by decide +kernel
theorem dJ9_min_7cf53_6 : decode cJ9_min_7cf53 6 = .ok (.goto 4, 3) := by decide +kernel
theorem dJ9_min_7cf53_9 : decode cJ9_min_7cf53 9 = .ok (.iload_n 1, 1) := by decide +kernel
theorem dJ9_min_7cf53_10 : decode cJ9_min_7cf53 10 = .ok (.ireturn, 1) := by decide +kernel
theorem dL_law_0 : decode cL_law 0 = .ok (.new 7, 3) := by decide +kernel
theorem dL_law_3 : decode cL_law 3 = .ok (.dup, 1) := by decide +kernel
theorem dL_law_4 : decode cL_law 4 = .ok (.invokespecial 9, 3) := by decide +kernel
theorem dL_law_7 : decode cL_law 7 = .ok (.astore_n 1, 1) := by decide +kernel
theorem dL_law_8 : decode cL_law 8 = .ok (.new 10, 3) := by decide +kernel
theorem dL_law_11 : decode cL_law 11 = .ok (.dup, 1) := by decide +kernel
theorem dL_law_12 : decode cL_law 12 = .ok (.invokespecial 12, 3) := by decide +kernel
theorem dL_law_15 : decode cL_law 15 = .ok (.astore_n 2, 1) := by decide +kernel
theorem dL_law_16 : decode cL_law 16 = .ok (.iconst 0, 1) := by decide +kernel
theorem dL_law_17 : decode cL_law 17 = .ok (.istore_n 3, 1) := by decide +kernel
theorem dL_law_18 : decode cL_law 18 = .ok (.iload_n 3, 1) := by decide +kernel
theorem dL_law_19 : decode cL_law 19 = .ok (.aload_n 0, 1) := by decide +kernel
theorem dL_law_20 : decode cL_law 20 = .ok (.arraylength, 1) := by decide +kernel
theorem dL_law_21 : decode cL_law 21 = .ok (.iconst 5, 1) := by decide +kernel
theorem dL_law_22 : decode cL_law 22 = .ok (.isub, 1) := by decide +kernel
theorem dL_law_23 : decode cL_law 23 = .ok (.if_icmp .gt 849, 3) := by decide +kernel
theorem dL_law_26 : decode cL_law 26 = .ok (.aload_n 0, 1) := by decide +kernel
theorem dL_law_27 : decode cL_law 27 = .ok (.iload_n 3, 1) := by decide +kernel
theorem dL_law_28 : decode cL_law 28 = .ok (.iaload, 1) := by decide +kernel
theorem dL_law_29 : decode cL_law 29 = .ok (.bipush 31, 2) := by decide +kernel
theorem dL_law_31 : decode cL_law 31 = .ok (.iand, 1) := by decide +kernel
theorem dL_law_32 : decode cL_law 32 = .ok (.tableswitch 834 0 24 #[116, 139, 152, 165, 178, 201, 234, 267, 300, 333, 356, 399, 412, 425, 448, 461, 524, 577, 590, 603, 652, 711, 765, 788, 811], 116) := by decide +kernel
theorem dL_law_148 : decode cL_law 148 = .ok (.aload_n 1, 1) := by decide +kernel
theorem dL_law_149 : decode cL_law 149 = .ok (.aload_n 0, 1) := by decide +kernel
theorem dL_law_150 : decode cL_law 150 = .ok (.iload_n 3, 1) := by decide +kernel
theorem dL_law_151 : decode cL_law 151 = .ok (.iconst 1, 1) := by decide +kernel
theorem dL_law_152 : decode cL_law 152 = .ok (.iadd, 1) := by decide +kernel
theorem dL_law_153 : decode cL_law 153 = .ok (.iaload, 1) := by decide +kernel
theorem dL_law_154 : decode cL_law 154 = .ok (.invokevirtual 13, 3) := by decide +kernel
theorem dL_law_157 : decode cL_law 157 = .ok (.aload_n 2, 1) := by decide +kernel
theorem dL_law_158 : decode cL_law 158 = .ok (.aload_n 0, 1) := by decide +kernel
theorem dL_law_159 : decode cL_law 159 = .ok (.iload_n 3, 1) := by decide +kernel
theorem dL_law_160 : decode cL_law 160 = .ok (.iconst 1, 1) := by decide +kernel
theorem dL_law_161 : decode cL_law 161 = .ok (.iadd, 1) := by decide +kernel
theorem dL_law_162 : decode cL_law 162 = .ok (.iaload, 1) := by decide +kernel
theorem dL_law_163 : decode cL_law 163 = .ok (.invokevirtual 17, 3) := by decide +kernel
theorem dL_law_166 : decode cL_law 166 = .ok (.if_icmp .eq 700, 3) := by decide +kernel
theorem dL_law_169 : decode cL_law 169 = .ok (.iconst 0, 1) := by decide +kernel
theorem dL_law_170 : decode cL_law 170 = .ok (.ireturn, 1) := by decide +kernel
theorem dL_law_171 : decode cL_law 171 = .ok (.aload_n 1, 1) := by decide +kernel
theorem dL_law_172 : decode cL_law 172 = .ok (.invokevirtual 18, 3) := by decide +kernel
theorem dL_law_175 : decode cL_law 175 = .ok (.aload_n 2, 1) := by decide +kernel
theorem dL_law_176 : decode cL_law 176 = .ok (.invokevirtual 22, 3) := by decide +kernel
theorem dL_law_179 : decode cL_law 179 = .ok (.if_icmp .eq 687, 3) := by decide +kernel
theorem dL_law_182 : decode cL_law 182 = .ok (.iconst 0, 1) := by decide +kernel
theorem dL_law_183 : decode cL_law 183 = .ok (.ireturn, 1) := by decide +kernel
theorem dL_law_184 : decode cL_law 184 = .ok (.aload_n 1, 1) := by decide +kernel
theorem dL_law_185 : decode cL_law 185 = .ok (.invokevirtual 23, 3) := by decide +kernel
theorem dL_law_188 : decode cL_law 188 = .ok (.aload_n 2, 1) := by decide +kernel
theorem dL_law_189 : decode cL_law 189 = .ok (.invokevirtual 26, 3) := by decide +kernel
theorem dL_law_192 : decode cL_law 192 = .ok (.if_icmp .eq 674, 3) := by decide +kernel
theorem dL_law_195 : decode cL_law 195 = .ok (.iconst 0, 1) := by decide +kernel
theorem dL_law_196 : decode cL_law 196 = .ok (.ireturn, 1) := by decide +kernel
theorem dL_law_197 : decode cL_law 197 = .ok (.aload_n 1, 1) := by decide +kernel
theorem dL_law_198 : decode cL_law 198 = .ok (.invokevirtual 27, 3) := by decide +kernel
theorem dL_law_201 : decode cL_law 201 = .ok (.aload_n 2, 1) := by decide +kernel
theorem dL_law_202 : decode cL_law 202 = .ok (.invokevirtual 30, 3) := by decide +kernel
theorem dL_law_205 : decode cL_law 205 = .ok (.if_icmp .eq 661, 3) := by decide +kernel
theorem dL_law_208 : decode cL_law 208 = .ok (.iconst 0, 1) := by decide +kernel
theorem dL_law_209 : decode cL_law 209 = .ok (.ireturn, 1) := by decide +kernel
theorem dL_law_210 : decode cL_law 210 = .ok (.aload_n 1, 1) := by decide +kernel
theorem dL_law_211 : decode cL_law 211 = .ok (.aload_n 0, 1) := by decide +kernel
theorem dL_law_212 : decode cL_law 212 = .ok (.iload_n 3, 1) := by decide +kernel
theorem dL_law_213 : decode cL_law 213 = .ok (.iconst 1, 1) := by decide +kernel
theorem dL_law_214 : decode cL_law 214 = .ok (.iadd, 1) := by decide +kernel
theorem dL_law_215 : decode cL_law 215 = .ok (.iaload, 1) := by decide +kernel
theorem dL_law_216 : decode cL_law 216 = .ok (.invokevirtual 31, 3) := by decide +kernel
theorem dL_law_219 : decode cL_law 219 = .ok (.aload_n 2, 1) := by decide +kernel
theorem dL_law_220 : decode cL_law 220 = .ok (.aload_n 0, 1) := by decide +kernel
theorem dL_law_221 : decode cL_law 221 = .ok (.iload_n 3, 1) := by decide +kernel
theorem dL_law_222 : decode cL_law 222 = .ok (.iconst 1, 1) := by decide +kernel
theorem dL_law_223 : decode cL_law 223 = .ok (.iadd, 1) := by decide +kernel
theorem dL_law_224 : decode cL_law 224 = .ok (.iaload, 1) := by decide +kernel
theorem dL_law_225 : decode cL_law 225 = .ok (.invokevirtual 34, 3) := by decide +kernel
theorem dL_law_228 : decode cL_law 228 = .ok (.if_icmp .eq 638, 3) := by decide +kernel
theorem dL_law_231 : decode cL_law 231 = .ok (.iconst 0, 1) := by decide +kernel
theorem dL_law_232 : decode cL_law 232 = .ok (.ireturn, 1) := by decide +kernel
theorem dL_law_233 : decode cL_law 233 = .ok (.aload_n 1, 1) := by decide +kernel
theorem dL_law_234 : decode cL_law 234 = .ok (.aload_n 0, 1) := by decide +kernel
theorem dL_law_235 : decode cL_law 235 = .ok (.iload_n 3, 1) := by decide +kernel
theorem dL_law_236 : decode cL_law 236 = .ok (.iconst 1, 1) := by decide +kernel
theorem dL_law_237 : decode cL_law 237 = .ok (.iadd, 1) := by decide +kernel
theorem dL_law_238 : decode cL_law 238 = .ok (.iaload, 1) := by decide +kernel
theorem dL_law_239 : decode cL_law 239 = .ok (.aload_n 0, 1) := by decide +kernel
theorem dL_law_240 : decode cL_law 240 = .ok (.iload_n 3, 1) := by decide +kernel
theorem dL_law_241 : decode cL_law 241 = .ok (.iconst 2, 1) := by decide +kernel
theorem dL_law_242 : decode cL_law 242 = .ok (.iadd, 1) := by decide +kernel
theorem dL_law_243 : decode cL_law 243 = .ok (.iaload, 1) := by decide +kernel
theorem dL_law_244 : decode cL_law 244 = .ok (.invokevirtual 35, 3) := by decide +kernel
theorem dL_law_247 : decode cL_law 247 = .ok (.aload_n 2, 1) := by decide +kernel
theorem dL_law_248 : decode cL_law 248 = .ok (.aload_n 0, 1) := by decide +kernel
theorem dL_law_249 : decode cL_law 249 = .ok (.iload_n 3, 1) := by decide +kernel
theorem dL_law_250 : decode cL_law 250 = .ok (.iconst 1, 1) := by decide +kernel
theorem dL_law_251 : decode cL_law 251 = .ok (.iadd, 1) := by decide +kernel
theorem dL_law_252 : decode cL_law 252 = .ok (.iaload, 1) := by decide +kernel
theorem dL_law_253 : decode cL_law 253 = .ok (.aload_n 0, 1) := by decide +kernel
theorem dL_law_254 : decode cL_law 254 = .ok (.iload_n 3, 1) := by decide +kernel
theorem dL_law_255 : decode cL_law 255 = .ok (.iconst 2, 1) := by decide +kernel
theorem dL_law_256 : decode cL_law 256 = .ok (.iadd, 1) := by decide +kernel
theorem dL_law_257 : decode cL_law 257 = .ok (.iaload, 1) := by decide +kernel
theorem dL_law_258 : decode cL_law 258 = .ok (.invokevirtual 39, 3) := by decide +kernel
theorem dL_law_261 : decode cL_law 261 = .ok (.if_icmp .eq 605, 3) := by decide +kernel
theorem dL_law_264 : decode cL_law 264 = .ok (.iconst 0, 1) := by decide +kernel
theorem dL_law_265 : decode cL_law 265 = .ok (.ireturn, 1) := by decide +kernel
theorem dL_law_266 : decode cL_law 266 = .ok (.aload_n 1, 1) := by decide +kernel
theorem dL_law_267 : decode cL_law 267 = .ok (.aload_n 0, 1) := by decide +kernel
theorem dL_law_268 : decode cL_law 268 = .ok (.iload_n 3, 1) := by decide +kernel
theorem dL_law_269 : decode cL_law 269 = .ok (.iconst 1, 1) := by decide +kernel
theorem dL_law_270 : decode cL_law 270 = .ok (.iadd, 1) := by decide +kernel
theorem dL_law_271 : decode cL_law 271 = .ok (.iaload, 1) := by decide +kernel
theorem dL_law_272 : decode cL_law 272 = .ok (.aload_n 0, 1) := by decide +kernel
theorem dL_law_273 : decode cL_law 273 = .ok (.iload_n 3, 1) := by decide +kernel
theorem dL_law_274 : decode cL_law 274 = .ok (.iconst 2, 1) := by decide +kernel
theorem dL_law_275 : decode cL_law 275 = .ok (.iadd, 1) := by decide +kernel
theorem dL_law_276 : decode cL_law 276 = .ok (.iaload, 1) := by decide +kernel
theorem dL_law_277 : decode cL_law 277 = .ok (.invokevirtual 40, 3) := by decide +kernel
theorem dL_law_280 : decode cL_law 280 = .ok (.aload_n 2, 1) := by decide +kernel
theorem dL_law_281 : decode cL_law 281 = .ok (.aload_n 0, 1) := by decide +kernel
theorem dL_law_282 : decode cL_law 282 = .ok (.iload_n 3, 1) := by decide +kernel
theorem dL_law_283 : decode cL_law 283 = .ok (.iconst 1, 1) := by decide +kernel
theorem dL_law_284 : decode cL_law 284 = .ok (.iadd, 1) := by decide +kernel
theorem dL_law_285 : decode cL_law 285 = .ok (.iaload, 1) := by decide +kernel
theorem dL_law_286 : decode cL_law 286 = .ok (.aload_n 0, 1) := by decide +kernel
theorem dL_law_287 : decode cL_law 287 = .ok (.iload_n 3, 1) := by decide +kernel
theorem dL_law_288 : decode cL_law 288 = .ok (.iconst 2, 1) := by decide +kernel
theorem dL_law_289 : decode cL_law 289 = .ok (.iadd, 1) := by decide +kernel
theorem dL_law_290 : decode cL_law 290 = .ok (.iaload, 1) := by decide +kernel
theorem dL_law_291 : decode cL_law 291 = .ok (.invokevirtual 43, 3) := by decide +kernel
theorem dL_law_294 : decode cL_law 294 = .ok (.if_icmp .eq 572, 3) := by decide +kernel
theorem dL_law_297 : decode cL_law 297 = .ok (.iconst 0, 1) := by decide +kernel
theorem dL_law_298 : decode cL_law 298 = .ok (.ireturn, 1) := by decide +kernel
theorem dL_law_299 : decode cL_law 299 = .ok (.aload_n 1, 1) := by decide +kernel
theorem dL_law_300 : decode cL_law 300 = .ok (.aload_n 0, 1) := by decide +kernel
theorem dL_law_301 : decode cL_law 301 = .ok (.iload_n 3, 1) := by decide +kernel
theorem dL_law_302 : decode cL_law 302 = .ok (.iconst 1, 1) := by decide +kernel
theorem dL_law_303 : decode cL_law 303 = .ok (.iadd, 1) := by decide +kernel
theorem dL_law_304 : decode cL_law 304 = .ok (.iaload, 1) := by decide +kernel
theorem dL_law_305 : decode cL_law 305 = .ok (.aload_n 0, 1) := by decide +kernel
theorem dL_law_306 : decode cL_law 306 = .ok (.iload_n 3, 1) := by decide +kernel
theorem dL_law_307 : decode cL_law 307 = .ok (.iconst 2, 1) := by decide +kernel
theorem dL_law_308 : decode cL_law 308 = .ok (.iadd, 1) := by decide +kernel
theorem dL_law_309 : decode cL_law 309 = .ok (.iaload, 1) := by decide +kernel
theorem dL_law_310 : decode cL_law 310 = .ok (.invokevirtual 44, 3) := by decide +kernel
theorem dL_law_313 : decode cL_law 313 = .ok (.aload_n 2, 1) := by decide +kernel
theorem dL_law_314 : decode cL_law 314 = .ok (.aload_n 0, 1) := by decide +kernel
theorem dL_law_315 : decode cL_law 315 = .ok (.iload_n 3, 1) := by decide +kernel
theorem dL_law_316 : decode cL_law 316 = .ok (.iconst 1, 1) := by decide +kernel
theorem dL_law_317 : decode cL_law 317 = .ok (.iadd, 1) := by decide +kernel
theorem dL_law_318 : decode cL_law 318 = .ok (.iaload, 1) := by decide +kernel
theorem dL_law_319 : decode cL_law 319 = .ok (.aload_n 0, 1) := by decide +kernel
theorem dL_law_320 : decode cL_law 320 = .ok (.iload_n 3, 1) := by decide +kernel
theorem dL_law_321 : decode cL_law 321 = .ok (.iconst 2, 1) := by decide +kernel
theorem dL_law_322 : decode cL_law 322 = .ok (.iadd, 1) := by decide +kernel
theorem dL_law_323 : decode cL_law 323 = .ok (.iaload, 1) := by decide +kernel
theorem dL_law_324 : decode cL_law 324 = .ok (.invokevirtual 47, 3) := by decide +kernel
theorem dL_law_327 : decode cL_law 327 = .ok (.if_icmp .eq 539, 3) := by decide +kernel
theorem dL_law_330 : decode cL_law 330 = .ok (.iconst 0, 1) := by decide +kernel
theorem dL_law_331 : decode cL_law 331 = .ok (.ireturn, 1) := by decide +kernel
theorem dL_law_332 : decode cL_law 332 = .ok (.aload_n 1, 1) := by decide +kernel
theorem dL_law_333 : decode cL_law 333 = .ok (.aload_n 0, 1) := by decide +kernel
theorem dL_law_334 : decode cL_law 334 = .ok (.iload_n 3, 1) := by decide +kernel
theorem dL_law_335 : decode cL_law 335 = .ok (.iconst 1, 1) := by decide +kernel
theorem dL_law_336 : decode cL_law 336 = .ok (.iadd, 1) := by decide +kernel
theorem dL_law_337 : decode cL_law 337 = .ok (.iaload, 1) := by decide +kernel
theorem dL_law_338 : decode cL_law 338 = .ok (.aload_n 0, 1) := by decide +kernel
theorem dL_law_339 : decode cL_law 339 = .ok (.iload_n 3, 1) := by decide +kernel
theorem dL_law_340 : decode cL_law 340 = .ok (.iconst 2, 1) := by decide +kernel
theorem dL_law_341 : decode cL_law 341 = .ok (.iadd, 1) := by decide +kernel
theorem dL_law_342 : decode cL_law 342 = .ok (.iaload, 1) := by decide +kernel
theorem dL_law_343 : decode cL_law 343 = .ok (.invokevirtual 48, 3) := by decide +kernel
theorem dL_law_346 : decode cL_law 346 = .ok (.aload_n 2, 1) := by decide +kernel
theorem dL_law_347 : decode cL_law 347 = .ok (.aload_n 0, 1) := by decide +kernel
theorem dL_law_348 : decode cL_law 348 = .ok (.iload_n 3, 1) := by decide +kernel
theorem dL_law_349 : decode cL_law 349 = .ok (.iconst 1, 1) := by decide +kernel
theorem dL_law_350 : decode cL_law 350 = .ok (.iadd, 1) := by decide +kernel
theorem dL_law_351 : decode cL_law 351 = .ok (.iaload, 1) := by decide +kernel
theorem dL_law_352 : decode cL_law 352 = .ok (.aload_n 0, 1) := by decide +kernel
theorem dL_law_353 : decode cL_law 353 = .ok (.iload_n 3, 1) := by decide +kernel
theorem dL_law_354 : decode cL_law 354 = .ok (.iconst 2, 1) := by decide +kernel
theorem dL_law_355 : decode cL_law 355 = .ok (.iadd, 1) := by decide +kernel
theorem dL_law_356 : decode cL_law 356 = .ok (.iaload, 1) := by decide +kernel
theorem dL_law_357 : decode cL_law 357 = .ok (.invokevirtual 51, 3) := by decide +kernel
theorem dL_law_360 : decode cL_law 360 = .ok (.if_icmp .eq 506, 3) := by decide +kernel
theorem dL_law_363 : decode cL_law 363 = .ok (.iconst 0, 1) := by decide +kernel
theorem dL_law_364 : decode cL_law 364 = .ok (.ireturn, 1) := by decide +kernel
theorem dL_law_365 : decode cL_law 365 = .ok (.aload_n 1, 1) := by decide +kernel
theorem dL_law_366 : decode cL_law 366 = .ok (.aload_n 0, 1) := by decide +kernel
theorem dL_law_367 : decode cL_law 367 = .ok (.iload_n 3, 1) := by decide +kernel
theorem dL_law_368 : decode cL_law 368 = .ok (.iconst 1, 1) := by decide +kernel
theorem dL_law_369 : decode cL_law 369 = .ok (.iadd, 1) := by decide +kernel
theorem dL_law_370 : decode cL_law 370 = .ok (.iaload, 1) := by decide +kernel
theorem dL_law_371 : decode cL_law 371 = .ok (.invokevirtual 52, 3) := by decide +kernel
theorem dL_law_374 : decode cL_law 374 = .ok (.aload_n 2, 1) := by decide +kernel
theorem dL_law_375 : decode cL_law 375 = .ok (.aload_n 0, 1) := by decide +kernel
theorem dL_law_376 : decode cL_law 376 = .ok (.iload_n 3, 1) := by decide +kernel
theorem dL_law_377 : decode cL_law 377 = .ok (.iconst 1, 1) := by decide +kernel
theorem dL_law_378 : decode cL_law 378 = .ok (.iadd, 1) := by decide +kernel
theorem dL_law_379 : decode cL_law 379 = .ok (.iaload, 1) := by decide +kernel
theorem dL_law_380 : decode cL_law 380 = .ok (.invokevirtual 55, 3) := by decide +kernel
theorem dL_law_383 : decode cL_law 383 = .ok (.if_icmp .eq 483, 3) := by decide +kernel
theorem dL_law_386 : decode cL_law 386 = .ok (.iconst 0, 1) := by decide +kernel
theorem dL_law_387 : decode cL_law 387 = .ok (.ireturn, 1) := by decide +kernel
theorem dL_law_388 : decode cL_law 388 = .ok (.aload_n 1, 1) := by decide +kernel
theorem dL_law_389 : decode cL_law 389 = .ok (.aload_n 0, 1) := by decide +kernel
theorem dL_law_390 : decode cL_law 390 = .ok (.iload_n 3, 1) := by decide +kernel
theorem dL_law_391 : decode cL_law 391 = .ok (.iconst 1, 1) := by decide +kernel
theorem dL_law_392 : decode cL_law 392 = .ok (.iadd, 1) := by decide +kernel
theorem dL_law_393 : decode cL_law 393 = .ok (.iaload, 1) := by decide +kernel
theorem dL_law_394 : decode cL_law 394 = .ok (.aload_n 0, 1) := by decide +kernel
theorem dL_law_395 : decode cL_law 395 = .ok (.iload_n 3, 1) := by decide +kernel
theorem dL_law_396 : decode cL_law 396 = .ok (.iconst 2, 1) := by decide +kernel
theorem dL_law_397 : decode cL_law 397 = .ok (.iadd, 1) := by decide +kernel
theorem dL_law_398 : decode cL_law 398 = .ok (.iaload, 1) := by decide +kernel
theorem dL_law_399 : decode cL_law 399 = .ok (.aload_n 0, 1) := by decide +kernel
theorem dL_law_400 : decode cL_law 400 = .ok (.iload_n 3, 1) := by decide +kernel
theorem dL_law_401 : decode cL_law 401 = .ok (.iconst 3, 1) := by decide +kernel
theorem dL_law_402 : decode cL_law 402 = .ok (.iadd, 1) := by decide +kernel
theorem dL_law_403 : decode cL_law 403 = .ok (.iaload, 1) := by decide +kernel
theorem dL_law_404 : decode cL_law 404 = .ok (.invokevirtual 56, 3) := by decide +kernel
theorem dL_law_407 : decode cL_law 407 = .ok (.aload_n 2, 1) := by decide +kernel
theorem dL_law_408 : decode cL_law 408 = .ok (.aload_n 0, 1) := by decide +kernel
theorem dL_law_409 : decode cL_law 409 = .ok (.iload_n 3, 1) := by decide +kernel
theorem dL_law_410 : decode cL_law 410 = .ok (.iconst 1, 1) := by decide +kernel
theorem dL_law_411 : decode cL_law 411 = .ok (.iadd, 1) := by decide +kernel
theorem dL_law_412 : decode cL_law 412 = .ok (.iaload, 1) := by decide +kernel
theorem dL_law_413 : decode cL_law 413 = .ok (.aload_n 0, 1) := by decide +kernel
theorem dL_law_414 : decode cL_law 414 = .ok (.iload_n 3, 1) := by decide +kernel
theorem dL_law_415 : decode cL_law 415 = .ok (.iconst 2, 1) := by decide +kernel
theorem dL_law_416 : decode cL_law 416 = .ok (.iadd, 1) := by decide +kernel
theorem dL_law_417 : decode cL_law 417 = .ok (.iaload, 1) := by decide +kernel
theorem dL_law_418 : decode cL_law 418 = .ok (.aload_n 0, 1) := by decide +kernel
theorem dL_law_419 : decode cL_law 419 = .ok (.iload_n 3, 1) := by decide +kernel
theorem dL_law_420 : decode cL_law 420 = .ok (.iconst 3, 1) := by decide +kernel
theorem dL_law_421 : decode cL_law 421 = .ok (.iadd, 1) := by decide +kernel
theorem dL_law_422 : decode cL_law 422 = .ok (.iaload, 1) := by decide +kernel
theorem dL_law_423 : decode cL_law 423 = .ok (.invokevirtual 60, 3) := by decide +kernel
theorem dL_law_426 : decode cL_law 426 = .ok (.if_icmp .eq 440, 3) := by decide +kernel
theorem dL_law_429 : decode cL_law 429 = .ok (.iconst 0, 1) := by decide +kernel
theorem dL_law_430 : decode cL_law 430 = .ok (.ireturn, 1) := by decide +kernel
theorem dL_law_431 : decode cL_law 431 = .ok (.aload_n 1, 1) := by decide +kernel
theorem dL_law_432 : decode cL_law 432 = .ok (.invokevirtual 61, 3) := by decide +kernel
theorem dL_law_435 : decode cL_law 435 = .ok (.aload_n 2, 1) := by decide +kernel
theorem dL_law_436 : decode cL_law 436 = .ok (.invokevirtual 64, 3) := by decide +kernel
theorem dL_law_439 : decode cL_law 439 = .ok (.if_icmp .eq 427, 3) := by decide +kernel
theorem dL_law_442 : decode cL_law 442 = .ok (.iconst 0, 1) := by decide +kernel
theorem dL_law_443 : decode cL_law 443 = .ok (.ireturn, 1) := by decide +kernel
theorem dL_law_444 : decode cL_law 444 = .ok (.aload_n 1, 1) := by decide +kernel
theorem dL_law_445 : decode cL_law 445 = .ok (.invokevirtual 65, 3) := by decide +kernel
theorem dL_law_448 : decode cL_law 448 = .ok (.aload_n 2, 1) := by decide +kernel
theorem dL_law_449 : decode cL_law 449 = .ok (.invokevirtual 68, 3) := by decide +kernel
theorem dL_law_452 : decode cL_law 452 = .ok (.if_icmp .eq 414, 3) := by decide +kernel
theorem dL_law_455 : decode cL_law 455 = .ok (.iconst 0, 1) := by decide +kernel
theorem dL_law_456 : decode cL_law 456 = .ok (.ireturn, 1) := by decide +kernel
theorem dL_law_457 : decode cL_law 457 = .ok (.aload_n 1, 1) := by decide +kernel
theorem dL_law_458 : decode cL_law 458 = .ok (.aload_n 0, 1) := by decide +kernel
theorem dL_law_459 : decode cL_law 459 = .ok (.iload_n 3, 1) := by decide +kernel
theorem dL_law_460 : decode cL_law 460 = .ok (.iconst 1, 1) := by decide +kernel
theorem dL_law_461 : decode cL_law 461 = .ok (.iadd, 1) := by decide +kernel
theorem dL_law_462 : decode cL_law 462 = .ok (.iaload, 1) := by decide +kernel
theorem dL_law_463 : decode cL_law 463 = .ok (.invokevirtual 69, 3) := by decide +kernel
theorem dL_law_466 : decode cL_law 466 = .ok (.aload_n 2, 1) := by decide +kernel
theorem dL_law_467 : decode cL_law 467 = .ok (.aload_n 0, 1) := by decide +kernel
theorem dL_law_468 : decode cL_law 468 = .ok (.iload_n 3, 1) := by decide +kernel
theorem dL_law_469 : decode cL_law 469 = .ok (.iconst 1, 1) := by decide +kernel
theorem dL_law_470 : decode cL_law 470 = .ok (.iadd, 1) := by decide +kernel
theorem dL_law_471 : decode cL_law 471 = .ok (.iaload, 1) := by decide +kernel
theorem dL_law_472 : decode cL_law 472 = .ok (.invokevirtual 72, 3) := by decide +kernel
theorem dL_law_475 : decode cL_law 475 = .ok (.if_icmp .eq 391, 3) := by decide +kernel
theorem dL_law_478 : decode cL_law 478 = .ok (.iconst 0, 1) := by decide +kernel
theorem dL_law_479 : decode cL_law 479 = .ok (.ireturn, 1) := by decide +kernel
theorem dL_law_480 : decode cL_law 480 = .ok (.aload_n 1, 1) := by decide +kernel
theorem dL_law_481 : decode cL_law 481 = .ok (.invokevirtual 73, 3) := by decide +kernel
theorem dL_law_484 : decode cL_law 484 = .ok (.aload_n 2, 1) := by decide +kernel
theorem dL_law_485 : decode cL_law 485 = .ok (.invokevirtual 76, 3) := by decide +kernel
theorem dL_law_488 : decode cL_law 488 = .ok (.if_icmp .eq 378, 3) := by decide +kernel
theorem dL_law_491 : decode cL_law 491 = .ok (.iconst 0, 1) := by decide +kernel
theorem dL_law_492 : decode cL_law 492 = .ok (.ireturn, 1) := by decide +kernel
theorem dL_law_493 : decode cL_law 493 = .ok (.aload_n 1, 1) := by decide +kernel
theorem dL_law_494 : decode cL_law 494 = .ok (.aload_n 0, 1) := by decide +kernel
theorem dL_law_495 : decode cL_law 495 = .ok (.iload_n 3, 1) := by decide +kernel
theorem dL_law_496 : decode cL_law 496 = .ok (.iconst 1, 1) := by decide +kernel
theorem dL_law_497 : decode cL_law 497 = .ok (.iadd, 1) := by decide +kernel
theorem dL_law_498 : decode cL_law 498 = .ok (.iaload, 1) := by decide +kernel
theorem dL_law_499 : decode cL_law 499 = .ok (.aload_n 0, 1) := by decide +kernel
theorem dL_law_500 : decode cL_law 500 = .ok (.iload_n 3, 1) := by decide +kernel
theorem dL_law_501 : decode cL_law 501 = .ok (.iconst 2, 1) := by decide +kernel
theorem dL_law_502 : decode cL_law 502 = .ok (.iadd, 1) := by decide +kernel
theorem dL_law_503 : decode cL_law 503 = .ok (.iaload, 1) := by decide +kernel
theorem dL_law_504 : decode cL_law 504 = .ok (.i2l, 1) := by decide +kernel
theorem dL_law_505 : decode cL_law 505 = .ok (.bipush 32, 2) := by decide +kernel
theorem dL_law_507 : decode cL_law 507 = .ok (.lshl, 1) := by decide +kernel
theorem dL_law_508 : decode cL_law 508 = .ok (.aload_n 0, 1) := by decide +kernel
theorem dL_law_509 : decode cL_law 509 = .ok (.iload_n 3, 1) := by decide +kernel
theorem dL_law_510 : decode cL_law 510 = .ok (.iconst 3, 1) := by decide +kernel
theorem dL_law_511 : decode cL_law 511 = .ok (.iadd, 1) := by decide +kernel
theorem dL_law_512 : decode cL_law 512 = .ok (.iaload, 1) := by decide +kernel
theorem dL_law_513 : decode cL_law 513 = .ok (.i2l, 1) := by decide +kernel
theorem dL_law_514 : decode cL_law 514 = .ok (.ldc2_w 77, 3) := by decide +kernel
theorem dL_law_517 : decode cL_law 517 = .ok (.land, 1) := by decide +kernel
theorem dL_law_518 : decode cL_law 518 = .ok (.lor, 1) := by decide +kernel
theorem dL_law_519 : decode cL_law 519 = .ok (.invokevirtual 79, 3) := by decide +kernel
theorem dL_law_522 : decode cL_law 522 = .ok (.aload_n 2, 1) := by decide +kernel
theorem dL_law_523 : decode cL_law 523 = .ok (.aload_n 0, 1) := by decide +kernel
theorem dL_law_524 : decode cL_law 524 = .ok (.iload_n 3, 1) := by decide +kernel
theorem dL_law_525 : decode cL_law 525 = .ok (.iconst 1, 1) := by decide +kernel
theorem dL_law_526 : decode cL_law 526 = .ok (.iadd, 1) := by decide +kernel
theorem dL_law_527 : decode cL_law 527 = .ok (.iaload, 1) := by decide +kernel
theorem dL_law_528 : decode cL_law 528 = .ok (.aload_n 0, 1) := by decide +kernel
theorem dL_law_529 : decode cL_law 529 = .ok (.iload_n 3, 1) := by decide +kernel
theorem dL_law_530 : decode cL_law 530 = .ok (.iconst 2, 1) := by decide +kernel
theorem dL_law_531 : decode cL_law 531 = .ok (.iadd, 1) := by decide +kernel
theorem dL_law_532 : decode cL_law 532 = .ok (.iaload, 1) := by decide +kernel
theorem dL_law_533 : decode cL_law 533 = .ok (.i2l, 1) := by decide +kernel
theorem dL_law_534 : decode cL_law 534 = .ok (.bipush 32, 2) := by decide +kernel
theorem dL_law_536 : decode cL_law 536 = .ok (.lshl, 1) := by decide +kernel
theorem dL_law_537 : decode cL_law 537 = .ok (.aload_n 0, 1) := by decide +kernel
theorem dL_law_538 : decode cL_law 538 = .ok (.iload_n 3, 1) := by decide +kernel
theorem dL_law_539 : decode cL_law 539 = .ok (.iconst 3, 1) := by decide +kernel
theorem dL_law_540 : decode cL_law 540 = .ok (.iadd, 1) := by decide +kernel
theorem dL_law_541 : decode cL_law 541 = .ok (.iaload, 1) := by decide +kernel
theorem dL_law_542 : decode cL_law 542 = .ok (.i2l, 1) := by decide +kernel
theorem dL_law_543 : decode cL_law 543 = .ok (.ldc2_w 77, 3) := by decide +kernel
theorem dL_law_546 : decode cL_law 546 = .ok (.land, 1) := by decide +kernel
theorem dL_law_547 : decode cL_law 547 = .ok (.lor, 1) := by decide +kernel
theorem dL_law_548 : decode cL_law 548 = .ok (.invokevirtual 83, 3) := by decide +kernel
theorem dL_law_551 : decode cL_law 551 = .ok (.if_icmp .eq 315, 3) := by decide +kernel
theorem dL_law_554 : decode cL_law 554 = .ok (.iconst 0, 1) := by decide +kernel
theorem dL_law_555 : decode cL_law 555 = .ok (.ireturn, 1) := by decide +kernel
theorem dL_law_556 : decode cL_law 556 = .ok (.aload_n 1, 1) := by decide +kernel
theorem dL_law_557 : decode cL_law 557 = .ok (.aload_n 0, 1) := by decide +kernel
theorem dL_law_558 : decode cL_law 558 = .ok (.iload_n 3, 1) := by decide +kernel
theorem dL_law_559 : decode cL_law 559 = .ok (.iconst 1, 1) := by decide +kernel
theorem dL_law_560 : decode cL_law 560 = .ok (.iadd, 1) := by decide +kernel
theorem dL_law_561 : decode cL_law 561 = .ok (.iaload, 1) := by decide +kernel
theorem dL_law_562 : decode cL_law 562 = .ok (.aload_n 0, 1) := by decide +kernel
theorem dL_law_563 : decode cL_law 563 = .ok (.iload_n 3, 1) := by decide +kernel
theorem dL_law_564 : decode cL_law 564 = .ok (.iconst 2, 1) := by decide +kernel
theorem dL_law_565 : decode cL_law 565 = .ok (.iadd, 1) := by decide +kernel
theorem dL_law_566 : decode cL_law 566 = .ok (.iaload, 1) := by decide +kernel
theorem dL_law_567 : decode cL_law 567 = .ok (.aload_n 0, 1) := by decide +kernel
theorem dL_law_568 : decode cL_law 568 = .ok (.iload_n 3, 1) := by decide +kernel
theorem dL_law_569 : decode cL_law 569 = .ok (.iconst 3, 1) := by decide +kernel
theorem dL_law_570 : decode cL_law 570 = .ok (.iadd, 1) := by decide +kernel
theorem dL_law_571 : decode cL_law 571 = .ok (.iaload, 1) := by decide +kernel
theorem dL_law_572 : decode cL_law 572 = .ok (.aload_n 0, 1) := by decide +kernel
theorem dL_law_573 : decode cL_law 573 = .ok (.iload_n 3, 1) := by decide +kernel
theorem dL_law_574 : decode cL_law 574 = .ok (.iconst 4, 1) := by decide +kernel
theorem dL_law_575 : decode cL_law 575 = .ok (.iadd, 1) := by decide +kernel
theorem dL_law_576 : decode cL_law 576 = .ok (.iaload, 1) := by decide +kernel
theorem dL_law_577 : decode cL_law 577 = .ok (.invokevirtual 84, 3) := by decide +kernel
theorem dL_law_580 : decode cL_law 580 = .ok (.aload_n 2, 1) := by decide +kernel
theorem dL_law_581 : decode cL_law 581 = .ok (.aload_n 0, 1) := by decide +kernel
theorem dL_law_582 : decode cL_law 582 = .ok (.iload_n 3, 1) := by decide +kernel
theorem dL_law_583 : decode cL_law 583 = .ok (.iconst 1, 1) := by decide +kernel
theorem dL_law_584 : decode cL_law 584 = .ok (.iadd, 1) := by decide +kernel
theorem dL_law_585 : decode cL_law 585 = .ok (.iaload, 1) := by decide +kernel
theorem dL_law_586 : decode cL_law 586 = .ok (.aload_n 0, 1) := by decide +kernel
theorem dL_law_587 : decode cL_law 587 = .ok (.iload_n 3, 1) := by decide +kernel
theorem dL_law_588 : decode cL_law 588 = .ok (.iconst 2, 1) := by decide +kernel
theorem dL_law_589 : decode cL_law 589 = .ok (.iadd, 1) := by decide +kernel
theorem dL_law_590 : decode cL_law 590 = .ok (.iaload, 1) := by decide +kernel
theorem dL_law_591 : decode cL_law 591 = .ok (.aload_n 0, 1) := by decide +kernel
theorem dL_law_592 : decode cL_law 592 = .ok (.iload_n 3, 1) := by decide +kernel
theorem dL_law_593 : decode cL_law 593 = .ok (.iconst 3, 1) := by decide +kernel
theorem dL_law_594 : decode cL_law 594 = .ok (.iadd, 1) := by decide +kernel
theorem dL_law_595 : decode cL_law 595 = .ok (.iaload, 1) := by decide +kernel
theorem dL_law_596 : decode cL_law 596 = .ok (.aload_n 0, 1) := by decide +kernel
theorem dL_law_597 : decode cL_law 597 = .ok (.iload_n 3, 1) := by decide +kernel
theorem dL_law_598 : decode cL_law 598 = .ok (.iconst 4, 1) := by decide +kernel
theorem dL_law_599 : decode cL_law 599 = .ok (.iadd, 1) := by decide +kernel
theorem dL_law_600 : decode cL_law 600 = .ok (.iaload, 1) := by decide +kernel
theorem dL_law_601 : decode cL_law 601 = .ok (.invokevirtual 88, 3) := by decide +kernel
theorem dL_law_604 : decode cL_law 604 = .ok (.if_icmp .eq 262, 3) := by decide +kernel
theorem dL_law_607 : decode cL_law 607 = .ok (.iconst 0, 1) := by decide +kernel
theorem dL_law_608 : decode cL_law 608 = .ok (.ireturn, 1) := by decide +kernel
theorem dL_law_609 : decode cL_law 609 = .ok (.aload_n 1, 1) := by decide +kernel
theorem dL_law_610 : decode cL_law 610 = .ok (.invokevirtual 89, 3) := by decide +kernel
theorem dL_law_613 : decode cL_law 613 = .ok (.aload_n 2, 1) := by decide +kernel
theorem dL_law_614 : decode cL_law 614 = .ok (.invokevirtual 92, 3) := by decide +kernel
theorem dL_law_617 : decode cL_law 617 = .ok (.if_icmp .eq 249, 3) := by decide +kernel
theorem dL_law_620 : decode cL_law 620 = .ok (.iconst 0, 1) := by decide +kernel
theorem dL_law_621 : decode cL_law 621 = .ok (.ireturn, 1) := by decide +kernel
theorem dL_law_622 : decode cL_law 622 = .ok (.aload_n 1, 1) := by decide +kernel
theorem dL_law_623 : decode cL_law 623 = .ok (.invokevirtual 93, 3) := by decide +kernel
theorem dL_law_626 : decode cL_law 626 = .ok (.aload_n 2, 1) := by decide +kernel
theorem dL_law_627 : decode cL_law 627 = .ok (.invokevirtual 96, 3) := by decide +kernel
theorem dL_law_630 : decode cL_law 630 = .ok (.if_icmp .eq 236, 3) := by decide +kernel
theorem dL_law_633 : decode cL_law 633 = .ok (.iconst 0, 1) := by decide +kernel
theorem dL_law_634 : decode cL_law 634 = .ok (.ireturn, 1) := by decide +kernel
theorem dL_law_635 : decode cL_law 635 = .ok (.aload_n 1, 1) := by decide +kernel
theorem dL_law_636 : decode cL_law 636 = .ok (.aload_n 0, 1) := by decide +kernel
theorem dL_law_637 : decode cL_law 637 = .ok (.iload_n 3, 1) := by decide +kernel
theorem dL_law_638 : decode cL_law 638 = .ok (.iconst 1, 1) := by decide +kernel
theorem dL_law_639 : decode cL_law 639 = .ok (.iadd, 1) := by decide +kernel
theorem dL_law_640 : decode cL_law 640 = .ok (.iaload, 1) := by decide +kernel
theorem dL_law_641 : decode cL_law 641 = .ok (.aload_n 0, 1) := by decide +kernel
theorem dL_law_642 : decode cL_law 642 = .ok (.iload_n 3, 1) := by decide +kernel
theorem dL_law_643 : decode cL_law 643 = .ok (.iconst 2, 1) := by decide +kernel
theorem dL_law_644 : decode cL_law 644 = .ok (.iadd, 1) := by decide +kernel
theorem dL_law_645 : decode cL_law 645 = .ok (.iaload, 1) := by decide +kernel
theorem dL_law_646 : decode cL_law 646 = .ok (.ifCond .eq 7, 3) := by decide +kernel
theorem dL_law_649 : decode cL_law 649 = .ok (.iconst 1, 1) := by decide +kernel
theorem dL_law_650 : decode cL_law 650 = .ok (.goto 4, 3) := by decide +kernel
theorem dL_law_653 : decode cL_law 653 = .ok (.iconst 0, 1) := by decide +kernel
theorem dL_law_654 : decode cL_law 654 = .ok (.invokevirtual 97, 3) := by decide +kernel
theorem dL_law_657 : decode cL_law 657 = .ok (.aload_n 2, 1) := by decide +kernel
theorem dL_law_658 : decode cL_law 658 = .ok (.aload_n 0, 1) := by decide +kernel
theorem dL_law_659 : decode cL_law 659 = .ok (.iload_n 3, 1) := by decide +kernel
theorem dL_law_660 : decode cL_law 660 = .ok (.iconst 1, 1) := by decide +kernel
theorem dL_law_661 : decode cL_law 661 = .ok (.iadd, 1) := by decide +kernel
theorem dL_law_662 : decode cL_law 662 = .ok (.iaload, 1) := by decide +kernel
theorem dL_law_663 : decode cL_law 663 = .ok (.aload_n 0, 1) := by decide +kernel
theorem dL_law_664 : decode cL_law 664 = .ok (.iload_n 3, 1) := by decide +kernel
theorem dL_law_665 : decode cL_law 665 = .ok (.iconst 2, 1) := by decide +kernel
theorem dL_law_666 : decode cL_law 666 = .ok (.iadd, 1) := by decide +kernel
theorem dL_law_667 : decode cL_law 667 = .ok (.iaload, 1) := by decide +kernel
theorem dL_law_668 : decode cL_law 668 = .ok (.ifCond .eq 7, 3) := by decide +kernel
theorem dL_law_671 : decode cL_law 671 = .ok (.iconst 1, 1) := by decide +kernel
theorem dL_law_672 : decode cL_law 672 = .ok (.goto 4, 3) := by decide +kernel
theorem dL_law_675 : decode cL_law 675 = .ok (.iconst 0, 1) := by decide +kernel
theorem dL_law_676 : decode cL_law 676 = .ok (.invokevirtual 101, 3) := by decide +kernel
theorem dL_law_679 : decode cL_law 679 = .ok (.if_icmp .eq 187, 3) := by decide +kernel
theorem dL_law_682 : decode cL_law 682 = .ok (.iconst 0, 1) := by decide +kernel
theorem dL_law_683 : decode cL_law 683 = .ok (.ireturn, 1) := by decide +kernel
theorem dL_law_684 : decode cL_law 684 = .ok (.aload_n 1, 1) := by decide +kernel
theorem dL_law_685 : decode cL_law 685 = .ok (.aload_n 0, 1) := by decide +kernel
theorem dL_law_686 : decode cL_law 686 = .ok (.iload_n 3, 1) := by decide +kernel
theorem dL_law_687 : decode cL_law 687 = .ok (.iconst 1, 1) := by decide +kernel
theorem dL_law_688 : decode cL_law 688 = .ok (.iadd, 1) := by decide +kernel
theorem dL_law_689 : decode cL_law 689 = .ok (.iaload, 1) := by decide +kernel
theorem dL_law_690 : decode cL_law 690 = .ok (.aload_n 0, 1) := by decide +kernel
theorem dL_law_691 : decode cL_law 691 = .ok (.iload_n 3, 1) := by decide +kernel
theorem dL_law_692 : decode cL_law 692 = .ok (.iconst 2, 1) := by decide +kernel
theorem dL_law_693 : decode cL_law 693 = .ok (.iadd, 1) := by decide +kernel
theorem dL_law_694 : decode cL_law 694 = .ok (.iaload, 1) := by decide +kernel
theorem dL_law_695 : decode cL_law 695 = .ok (.aload_n 0, 1) := by decide +kernel
theorem dL_law_696 : decode cL_law 696 = .ok (.iload_n 3, 1) := by decide +kernel
theorem dL_law_697 : decode cL_law 697 = .ok (.iconst 3, 1) := by decide +kernel
theorem dL_law_698 : decode cL_law 698 = .ok (.iadd, 1) := by decide +kernel
theorem dL_law_699 : decode cL_law 699 = .ok (.iaload, 1) := by decide +kernel
theorem dL_law_700 : decode cL_law 700 = .ok (.ifCond .eq 7, 3) := by decide +kernel
theorem dL_law_703 : decode cL_law 703 = .ok (.iconst 1, 1) := by decide +kernel
theorem dL_law_704 : decode cL_law 704 = .ok (.goto 4, 3) := by decide +kernel
theorem dL_law_707 : decode cL_law 707 = .ok (.iconst 0, 1) := by decide +kernel
theorem dL_law_708 : decode cL_law 708 = .ok (.invokevirtual 102, 3) := by decide +kernel
theorem dL_law_711 : decode cL_law 711 = .ok (.aload_n 2, 1) := by decide +kernel
theorem dL_law_712 : decode cL_law 712 = .ok (.aload_n 0, 1) := by decide +kernel
theorem dL_law_713 : decode cL_law 713 = .ok (.iload_n 3, 1) := by decide +kernel
theorem dL_law_714 : decode cL_law 714 = .ok (.iconst 1, 1) := by decide +kernel
theorem dL_law_715 : decode cL_law 715 = .ok (.iadd, 1) := by decide +kernel
theorem dL_law_716 : decode cL_law 716 = .ok (.iaload, 1) := by decide +kernel
theorem dL_law_717 : decode cL_law 717 = .ok (.aload_n 0, 1) := by decide +kernel
theorem dL_law_718 : decode cL_law 718 = .ok (.iload_n 3, 1) := by decide +kernel
theorem dL_law_719 : decode cL_law 719 = .ok (.iconst 2, 1) := by decide +kernel
theorem dL_law_720 : decode cL_law 720 = .ok (.iadd, 1) := by decide +kernel
theorem dL_law_721 : decode cL_law 721 = .ok (.iaload, 1) := by decide +kernel
theorem dL_law_722 : decode cL_law 722 = .ok (.aload_n 0, 1) := by decide +kernel
theorem dL_law_723 : decode cL_law 723 = .ok (.iload_n 3, 1) := by decide +kernel
theorem dL_law_724 : decode cL_law 724 = .ok (.iconst 3, 1) := by decide +kernel
theorem dL_law_725 : decode cL_law 725 = .ok (.iadd, 1) := by decide +kernel
theorem dL_law_726 : decode cL_law 726 = .ok (.iaload, 1) := by decide +kernel
theorem dL_law_727 : decode cL_law 727 = .ok (.ifCond .eq 7, 3) := by decide +kernel
theorem dL_law_730 : decode cL_law 730 = .ok (.iconst 1, 1) := by decide +kernel
theorem dL_law_731 : decode cL_law 731 = .ok (.goto 4, 3) := by decide +kernel
theorem dL_law_734 : decode cL_law 734 = .ok (.iconst 0, 1) := by decide +kernel
theorem dL_law_735 : decode cL_law 735 = .ok (.invokevirtual 106, 3) := by decide +kernel
theorem dL_law_738 : decode cL_law 738 = .ok (.if_icmp .eq 128, 3) := by decide +kernel
theorem dL_law_741 : decode cL_law 741 = .ok (.iconst 0, 1) := by decide +kernel
theorem dL_law_742 : decode cL_law 742 = .ok (.ireturn, 1) := by decide +kernel
theorem dL_law_743 : decode cL_law 743 = .ok (.aload_n 1, 1) := by decide +kernel
theorem dL_law_744 : decode cL_law 744 = .ok (.aload_n 0, 1) := by decide +kernel
theorem dL_law_745 : decode cL_law 745 = .ok (.iload_n 3, 1) := by decide +kernel
theorem dL_law_746 : decode cL_law 746 = .ok (.iconst 1, 1) := by decide +kernel
theorem dL_law_747 : decode cL_law 747 = .ok (.iadd, 1) := by decide +kernel
theorem dL_law_748 : decode cL_law 748 = .ok (.iaload, 1) := by decide +kernel
theorem dL_law_749 : decode cL_law 749 = .ok (.i2l, 1) := by decide +kernel
theorem dL_law_750 : decode cL_law 750 = .ok (.bipush 32, 2) := by decide +kernel
theorem dL_law_752 : decode cL_law 752 = .ok (.lshl, 1) := by decide +kernel
theorem dL_law_753 : decode cL_law 753 = .ok (.aload_n 0, 1) := by decide +kernel
theorem dL_law_754 : decode cL_law 754 = .ok (.iload_n 3, 1) := by decide +kernel
theorem dL_law_755 : decode cL_law 755 = .ok (.iconst 2, 1) := by decide +kernel
theorem dL_law_756 : decode cL_law 756 = .ok (.iadd, 1) := by decide +kernel
theorem dL_law_757 : decode cL_law 757 = .ok (.iaload, 1) := by decide +kernel
theorem dL_law_758 : decode cL_law 758 = .ok (.i2l, 1) := by decide +kernel
theorem dL_law_759 : decode cL_law 759 = .ok (.ldc2_w 77, 3) := by decide +kernel
theorem dL_law_762 : decode cL_law 762 = .ok (.land, 1) := by decide +kernel
theorem dL_law_763 : decode cL_law 763 = .ok (.lor, 1) := by decide +kernel
theorem dL_law_764 : decode cL_law 764 = .ok (.invokevirtual 107, 3) := by decide +kernel
theorem dL_law_767 : decode cL_law 767 = .ok (.aload_n 2, 1) := by decide +kernel
theorem dL_law_768 : decode cL_law 768 = .ok (.aload_n 0, 1) := by decide +kernel
theorem dL_law_769 : decode cL_law 769 = .ok (.iload_n 3, 1) := by decide +kernel
theorem dL_law_770 : decode cL_law 770 = .ok (.iconst 1, 1) := by decide +kernel
theorem dL_law_771 : decode cL_law 771 = .ok (.iadd, 1) := by decide +kernel
theorem dL_law_772 : decode cL_law 772 = .ok (.iaload, 1) := by decide +kernel
theorem dL_law_773 : decode cL_law 773 = .ok (.i2l, 1) := by decide +kernel
theorem dL_law_774 : decode cL_law 774 = .ok (.bipush 32, 2) := by decide +kernel
theorem dL_law_776 : decode cL_law 776 = .ok (.lshl, 1) := by decide +kernel
theorem dL_law_777 : decode cL_law 777 = .ok (.aload_n 0, 1) := by decide +kernel
theorem dL_law_778 : decode cL_law 778 = .ok (.iload_n 3, 1) := by decide +kernel
theorem dL_law_779 : decode cL_law 779 = .ok (.iconst 2, 1) := by decide +kernel
theorem dL_law_780 : decode cL_law 780 = .ok (.iadd, 1) := by decide +kernel
theorem dL_law_781 : decode cL_law 781 = .ok (.iaload, 1) := by decide +kernel
theorem dL_law_782 : decode cL_law 782 = .ok (.i2l, 1) := by decide +kernel
theorem dL_law_783 : decode cL_law 783 = .ok (.ldc2_w 77, 3) := by decide +kernel
theorem dL_law_786 : decode cL_law 786 = .ok (.land, 1) := by decide +kernel
theorem dL_law_787 : decode cL_law 787 = .ok (.lor, 1) := by decide +kernel
theorem dL_law_788 : decode cL_law 788 = .ok (.invokevirtual 111, 3) := by decide +kernel
theorem dL_law_791 : decode cL_law 791 = .ok (.lcmp, 1) := by decide +kernel
theorem dL_law_792 : decode cL_law 792 = .ok (.ifCond .eq 74, 3) := by decide +kernel
theorem dL_law_795 : decode cL_law 795 = .ok (.iconst 0, 1) := by decide +kernel
theorem dL_law_796 : decode cL_law 796 = .ok (.ireturn, 1) := by decide +kernel
theorem dL_law_797 : decode cL_law 797 = .ok (.aload_n 1, 1) := by decide +kernel
theorem dL_law_798 : decode cL_law 798 = .ok (.aload_n 0, 1) := by decide +kernel
theorem dL_law_799 : decode cL_law 799 = .ok (.iload_n 3, 1) := by decide +kernel
theorem dL_law_800 : decode cL_law 800 = .ok (.iconst 1, 1) := by decide +kernel
theorem dL_law_801 : decode cL_law 801 = .ok (.iadd, 1) := by decide +kernel
theorem dL_law_802 : decode cL_law 802 = .ok (.iaload, 1) := by decide +kernel
theorem dL_law_803 : decode cL_law 803 = .ok (.invokevirtual 112, 3) := by decide +kernel
theorem dL_law_806 : decode cL_law 806 = .ok (.aload_n 2, 1) := by decide +kernel
theorem dL_law_807 : decode cL_law 807 = .ok (.aload_n 0, 1) := by decide +kernel
theorem dL_law_808 : decode cL_law 808 = .ok (.iload_n 3, 1) := by decide +kernel
theorem dL_law_809 : decode cL_law 809 = .ok (.iconst 1, 1) := by decide +kernel
theorem dL_law_810 : decode cL_law 810 = .ok (.iadd, 1) := by decide +kernel
theorem dL_law_811 : decode cL_law 811 = .ok (.iaload, 1) := by decide +kernel
theorem dL_law_812 : decode cL_law 812 = .ok (.invokevirtual 115, 3) := by decide +kernel
theorem dL_law_815 : decode cL_law 815 = .ok (.if_icmp .eq 51, 3) := by decide +kernel
theorem dL_law_818 : decode cL_law 818 = .ok (.iconst 0, 1) := by decide +kernel
theorem dL_law_819 : decode cL_law 819 = .ok (.ireturn, 1) := by decide +kernel
theorem dL_law_820 : decode cL_law 820 = .ok (.aload_n 1, 1) := by decide +kernel
theorem dL_law_821 : decode cL_law 821 = .ok (.aload_n 0, 1) := by decide +kernel
theorem dL_law_822 : decode cL_law 822 = .ok (.iload_n 3, 1) := by decide +kernel
theorem dL_law_823 : decode cL_law 823 = .ok (.iconst 1, 1) := by decide +kernel
theorem dL_law_824 : decode cL_law 824 = .ok (.iadd, 1) := by decide +kernel
theorem dL_law_825 : decode cL_law 825 = .ok (.iaload, 1) := by decide +kernel
theorem dL_law_826 : decode cL_law 826 = .ok (.invokevirtual 116, 3) := by decide +kernel
theorem dL_law_829 : decode cL_law 829 = .ok (.aload_n 2, 1) := by decide +kernel
theorem dL_law_830 : decode cL_law 830 = .ok (.aload_n 0, 1) := by decide +kernel
theorem dL_law_831 : decode cL_law 831 = .ok (.iload_n 3, 1) := by decide +kernel
theorem dL_law_832 : decode cL_law 832 = .ok (.iconst 1, 1) := by decide +kernel
theorem dL_law_833 : decode cL_law 833 = .ok (.iadd, 1) := by decide +kernel
theorem dL_law_834 : decode cL_law 834 = .ok (.iaload, 1) := by decide +kernel
theorem dL_law_835 : decode cL_law 835 = .ok (.invokevirtual 119, 3) := by decide +kernel
theorem dL_law_838 : decode cL_law 838 = .ok (.if_icmp .eq 28, 3) := by decide +kernel
theorem dL_law_841 : decode cL_law 841 = .ok (.iconst 0, 1) := by decide +kernel
theorem dL_law_842 : decode cL_law 842 = .ok (.ireturn, 1) := by decide +kernel
theorem dL_law_843 : decode cL_law 843 = .ok (.aload_n 1, 1) := by decide +kernel
theorem dL_law_844 : decode cL_law 844 = .ok (.aload_n 0, 1) := by decide +kernel
theorem dL_law_845 : decode cL_law 845 = .ok (.iload_n 3, 1) := by decide +kernel
theorem dL_law_846 : decode cL_law 846 = .ok (.iconst 1, 1) := by decide +kernel
theorem dL_law_847 : decode cL_law 847 = .ok (.iadd, 1) := by decide +kernel
theorem dL_law_848 : decode cL_law 848 = .ok (.iaload, 1) := by decide +kernel
theorem dL_law_849 : decode cL_law 849 = .ok (.invokevirtual 120, 3) := by decide +kernel
theorem dL_law_852 : decode cL_law 852 = .ok (.aload_n 2, 1) := by decide +kernel
theorem dL_law_853 : decode cL_law 853 = .ok (.aload_n 0, 1) := by decide +kernel
theorem dL_law_854 : decode cL_law 854 = .ok (.iload_n 3, 1) := by decide +kernel
theorem dL_law_855 : decode cL_law 855 = .ok (.iconst 1, 1) := by decide +kernel
theorem dL_law_856 : decode cL_law 856 = .ok (.iadd, 1) := by decide +kernel
theorem dL_law_857 : decode cL_law 857 = .ok (.iaload, 1) := by decide +kernel
theorem dL_law_858 : decode cL_law 858 = .ok (.invokevirtual 123, 3) := by decide +kernel
theorem dL_law_861 : decode cL_law 861 = .ok (.if_icmp .eq 5, 3) := by decide +kernel
theorem dL_law_864 : decode cL_law 864 = .ok (.iconst 0, 1) := by decide +kernel
theorem dL_law_865 : decode cL_law 865 = .ok (.ireturn, 1) := by decide +kernel
theorem dL_law_866 : decode cL_law 866 = .ok (.iinc 3 5, 3) := by decide +kernel
theorem dL_law_869 : decode cL_law 869 = .ok (.goto (-851), 3) := by decide +kernel
theorem dL_law_872 : decode cL_law 872 = .ok (.iconst 1, 1) := by decide +kernel
theorem dL_law_873 : decode cL_law 873 = .ok (.ireturn, 1) := by decide +kernel
