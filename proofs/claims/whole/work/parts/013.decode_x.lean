theorem dX9_tryWith_15 : decode cX9_tryWith 15 = .ok (.iload_n 2, 1) := by decide +kernel
theorem dX9_tryWith_16 : decode cX9_tryWith 16 = .ok (.iload_n 3, 1) := by decide +kernel
theorem dX9_tryWith_17 : decode cX9_tryWith 17 = .ok (.iastore, 1) := by decide +kernel
theorem dX9_tryWith_18 : decode cX9_tryWith 18 = .ok (.return_, 1) := by decide +kernel
theorem dX9_noteSizes_0 : decode cX9_noteSizes 0 = .ok (.iconst 0, 1) := by decide +kernel
theorem dX9_noteSizes_1 : decode cX9_noteSizes 1 = .ok (.istore_n 1, 1) := by decide +kernel
theorem dX9_noteSizes_2 : decode cX9_noteSizes 2 = .ok (.iload_n 1, 1) := by decide +kernel
theorem dX9_noteSizes_3 : decode cX9_noteSizes 3 = .ok (.iconst 5, 1) := by decide +kernel
theorem dX9_noteSizes_4 : decode cX9_noteSizes 4 = .ok (.if_icmp .ge 22, 3) := by decide +kernel
theorem dX9_noteSizes_7 : decode cX9_noteSizes 7 = .ok (.aload_n 0, 1) := by decide +kernel
theorem dX9_noteSizes_8 : decode cX9_noteSizes 8 = .ok (.getfield 45, 3) := by decide +kernel
theorem dX9_noteSizes_11 : decode cX9_noteSizes 11 = .ok (.aload_n 0, 1) := by decide +kernel
theorem dX9_noteSizes_12 : decode cX9_noteSizes 12 = .ok (.getfield 12, 3) := by decide +kernel
theorem dX9_noteSizes_15 : decode cX9_noteSizes 15 = .ok (.iconst 0, 1) := by decide +kernel
theorem dX9_noteSizes_16 : decode cX9_noteSizes 16 = .ok (.invokevirtual 80, 3) := by decide +kernel
theorem dX9_noteSizes_19 : decode cX9_noteSizes 19 = .ok (.pop, 1) := by decide +kernel
theorem dX9_noteSizes_20 : decode cX9_noteSizes 20 = .ok (.iinc 1 1, 3) := by decide +kernel
theorem dX9_noteSizes_23 : decode cX9_noteSizes 23 = .ok (.goto (-21), 3) := by decide +kernel
theorem dX9_noteSizes_26 : decode cX9_noteSizes 26 = .ok (.iconst 0, 1) := by decide +kernel
theorem dX9_noteSizes_27 : decode cX9_noteSizes 27 = .ok (.istore_n 1, 1) := by decide +kernel
theorem dX9_noteSizes_28 : decode cX9_noteSizes 28 = .ok (.iload_n 1, 1) := by decide +kernel
theorem dX9_noteSizes_29 : decode cX9_noteSizes 29 = .ok (.aload_n 0, 1) := by decide +kernel
theorem dX9_noteSizes_30 : decode cX9_noteSizes 30 = .ok (.getfield 12, 3) := by decide +kernel
theorem dX9_noteSizes_33 : decode cX9_noteSizes 33 = .ok (.getfield 55, 3) := by decide +kernel
theorem dX9_noteSizes_36 : decode cX9_noteSizes 36 = .ok (.if_icmp .ge 37, 3) := by decide +kernel
theorem dX9_noteSizes_39 : decode cX9_noteSizes 39 = .ok (.aload_n 0, 1) := by decide +kernel
theorem dX9_noteSizes_40 : decode cX9_noteSizes 40 = .ok (.getfield 32, 3) := by decide +kernel
theorem dX9_noteSizes_43 : decode cX9_noteSizes 43 = .ok (.iload_n 1, 1) := by decide +kernel
theorem dX9_noteSizes_44 : decode cX9_noteSizes 44 = .ok (.dup2, 1) := by decide +kernel
theorem dX9_noteSizes_45 : decode cX9_noteSizes 45 = .ok (.iaload, 1) := by decide +kernel
theorem dX9_noteSizes_46 : decode cX9_noteSizes 46 = .ok (.iconst 1, 1) := by decide +kernel
theorem dX9_noteSizes_47 : decode cX9_noteSizes 47 = .ok (.aload_n 0, 1) := by decide +kernel
theorem dX9_noteSizes_48 : decode cX9_noteSizes 48 = .ok (.getfield 12, 3) := by decide +kernel
theorem dX9_noteSizes_51 : decode cX9_noteSizes 51 = .ok (.getfield 133, 3) := by decide +kernel
theorem dX9_noteSizes_54 : decode cX9_noteSizes 54 = .ok (.aload_n 0, 1) := by decide +kernel
theorem dX9_noteSizes_55 : decode cX9_noteSizes 55 = .ok (.getfield 12, 3) := by decide +kernel
theorem dX9_noteSizes_58 : decode cX9_noteSizes 58 = .ok (.getfield 61, 3) := by decide +kernel
theorem dX9_noteSizes_61 : decode cX9_noteSizes 61 = .ok (.iload_n 1, 1) := by decide +kernel
theorem dX9_noteSizes_62 : decode cX9_noteSizes 62 = .ok (.iaload, 1) := by decide +kernel
theorem dX9_noteSizes_63 : decode cX9_noteSizes 63 = .ok (.iaload, 1) := by decide +kernel
theorem dX9_noteSizes_64 : decode cX9_noteSizes 64 = .ok (.ishl, 1) := by decide +kernel
theorem dX9_noteSizes_65 : decode cX9_noteSizes 65 = .ok (.ior, 1) := by decide +kernel
theorem dX9_noteSizes_66 : decode cX9_noteSizes 66 = .ok (.iastore, 1) := by decide +kernel
theorem dX9_noteSizes_67 : decode cX9_noteSizes 67 = .ok (.iinc 1 1, 3) := by decide +kernel
theorem dX9_noteSizes_70 : decode cX9_noteSizes 70 = .ok (.goto (-42), 3) := by decide +kernel
theorem dX9_noteSizes_73 : decode cX9_noteSizes 73 = .ok (.return_, 1) := by decide +kernel
theorem dX9_unlikeSizes_0 : decode cX9_unlikeSizes 0 = .ok (.aload_n 0, 1) := by decide +kernel
theorem dX9_unlikeSizes_1 : decode cX9_unlikeSizes 1 = .ok (.getfield 32, 3) := by decide +kernel
theorem dX9_unlikeSizes_4 : decode cX9_unlikeSizes 4 = .ok (.iload_n 1, 1) := by decide +kernel
theorem dX9_unlikeSizes_5 : decode cX9_unlikeSizes 5 = .ok (.iaload, 1) := by decide +kernel
theorem dX9_unlikeSizes_6 : decode cX9_unlikeSizes 6 = .ok (.invokestatic 136, 3) := by decide +kernel
theorem dX9_unlikeSizes_9 : decode cX9_unlikeSizes 9 = .ok (.ireturn, 1) := by decide +kernel
theorem dX9_mostUnlike_0 : decode cX9_mostUnlike 0 = .ok (.iconst (-1), 1) := by decide +kernel
theorem dX9_mostUnlike_1 : decode cX9_mostUnlike 1 = .ok (.istore_n 2, 1) := by decide +kernel
theorem dX9_mostUnlike_2 : decode cX9_mostUnlike 2 = .ok (.iconst 0, 1) := by decide +kernel
theorem dX9_mostUnlike_3 : decode cX9_mostUnlike 3 = .ok (.istore_n 3, 1) := by decide +kernel
theorem dX9_mostUnlike_4 : decode cX9_mostUnlike 4 = .ok (.iconst 0, 1) := by decide +kernel
theorem dX9_mostUnlike_5 : decode cX9_mostUnlike 5 = .ok (.istore 4, 2) := by decide +kernel
theorem dX9_mostUnlike_7 : decode cX9_mostUnlike 7 = .ok (.iload 4, 2) := by decide +kernel
theorem dX9_mostUnlike_9 : decode cX9_mostUnlike 9 = .ok (.iload_n 1, 1) := by decide +kernel
theorem dX9_mostUnlike_10 : decode cX9_mostUnlike 10 = .ok (.if_icmp .ge 29, 3) := by decide +kernel
theorem dX9_mostUnlike_13 : decode cX9_mostUnlike 13 = .ok (.aload_n 0, 1) := by decide +kernel
theorem dX9_mostUnlike_14 : decode cX9_mostUnlike 14 = .ok (.iload 4, 2) := by decide +kernel
theorem dX9_mostUnlike_16 : decode cX9_mostUnlike 16 = .ok (.invokevirtual 141, 3) := by decide +kernel
theorem dX9_mostUnlike_19 : decode cX9_mostUnlike 19 = .ok (.iload_n 3, 1) := by decide +kernel
theorem dX9_mostUnlike_20 : decode cX9_mostUnlike 20 = .ok (.if_icmp .le 13, 3) := by decide +kernel
theorem dX9_mostUnlike_23 : decode cX9_mostUnlike 23 = .ok (.iload 4, 2) := by decide +kernel
theorem dX9_mostUnlike_25 : decode cX9_mostUnlike 25 = .ok (.istore_n 2, 1) := by decide +kernel
theorem dX9_mostUnlike_26 : decode cX9_mostUnlike 26 = .ok (.aload_n 0, 1) := by decide +kernel
theorem dX9_mostUnlike_27 : decode cX9_mostUnlike 27 = .ok (.iload 4, 2) := by decide +kernel
theorem dX9_mostUnlike_29 : decode cX9_mostUnlike 29 = .ok (.invokevirtual 141, 3) := by decide +kernel
theorem dX9_mostUnlike_32 : decode cX9_mostUnlike 32 = .ok (.istore_n 3, 1) := by decide +kernel
theorem dX9_mostUnlike_33 : decode cX9_mostUnlike 33 = .ok (.iinc 4 1, 3) := by decide +kernel
theorem dX9_mostUnlike_36 : decode cX9_mostUnlike 36 = .ok (.goto (-29), 3) := by decide +kernel
theorem dX9_mostUnlike_39 : decode cX9_mostUnlike 39 = .ok (.iload_n 2, 1) := by decide +kernel
theorem dX9_mostUnlike_40 : decode cX9_mostUnlike 40 = .ok (.ireturn, 1) := by decide +kernel
theorem dX9_byStorms_0 : decode cX9_byStorms 0 = .ok (.iconst 0, 1) := by decide +kernel
theorem dX9_byStorms_1 : decode cX9_byStorms 1 = .ok (.istore 6, 2) := by decide +kernel
theorem dX9_byStorms_3 : decode cX9_byStorms 3 = .ok (.iconst 0, 1) := by decide +kernel
theorem dX9_byStorms_4 : decode cX9_byStorms 4 = .ok (.istore 7, 2) := by decide +kernel
theorem dX9_byStorms_6 : decode cX9_byStorms 6 = .ok (.iload 7, 2) := by decide +kernel
theorem dX9_byStorms_8 : decode cX9_byStorms 8 = .ok (.iconst 1, 1) := by decide +kernel
theorem dX9_byStorms_9 : decode cX9_byStorms 9 = .ok (.iload 4, 2) := by decide +kernel
theorem dX9_byStorms_11 : decode cX9_byStorms 11 = .ok (.ishl, 1) := by decide +kernel
theorem dX9_byStorms_12 : decode cX9_byStorms 12 = .ok (.if_icmp .ge 116, 3) := by decide +kernel
theorem dX9_byStorms_15 : decode cX9_byStorms 15 = .ok (.iconst 1, 1) := by decide +kernel
theorem dX9_byStorms_16 : decode cX9_byStorms 16 = .ok (.istore 8, 2) := by decide +kernel
theorem dX9_byStorms_18 : decode cX9_byStorms 18 = .ok (.aload_n 0, 1) := by decide +kernel
theorem dX9_byStorms_19 : decode cX9_byStorms 19 = .ok (.getfield 12, 3) := by decide +kernel
theorem dX9_byStorms_22 : decode cX9_byStorms 22 = .ok (.aload_n 1, 1) := by decide +kernel
theorem dX9_byStorms_23 : decode cX9_byStorms 23 = .ok (.invokevirtual 64, 3) := by decide +kernel
theorem dX9_byStorms_26 : decode cX9_byStorms 26 = .ok (.iconst 0, 1) := by decide +kernel
theorem dX9_byStorms_27 : decode cX9_byStorms 27 = .ok (.istore 9, 2) := by decide +kernel
theorem dX9_byStorms_29 : decode cX9_byStorms 29 = .ok (.iload 9, 2) := by decide +kernel
theorem dX9_byStorms_31 : decode cX9_byStorms 31 = .ok (.iload 4, 2) := by decide +kernel
theorem dX9_byStorms_33 : decode cX9_byStorms 33 = .ok (.if_icmp .ge 70, 3) := by decide +kernel
theorem dX9_byStorms_36 : decode cX9_byStorms 36 = .ok (.iload 8, 2) := by decide +kernel
theorem dX9_byStorms_38 : decode cX9_byStorms 38 = .ok (.ifCond .le 65, 3) := by decide +kernel
theorem dX9_byStorms_41 : decode cX9_byStorms 41 = .ok (.iload 7, 2) := by decide +kernel
theorem dX9_byStorms_43 : decode cX9_byStorms 43 = .ok (.iload 9, 2) := by decide +kernel
theorem dX9_byStorms_45 : decode cX9_byStorms 45 = .ok (.ishr, 1) := by decide +kernel
theorem dX9_byStorms_46 : decode cX9_byStorms 46 = .ok (.iconst 1, 1) := by decide +kernel
theorem dX9_byStorms_47 : decode cX9_byStorms 47 = .ok (.iand, 1) := by decide +kernel
theorem dX9_byStorms_48 : decode cX9_byStorms 48 = .ok (.ifCond .eq 26, 3) := by decide +kernel
theorem dX9_byStorms_51 : decode cX9_byStorms 51 = .ok (.iload 8, 2) := by decide +kernel
theorem dX9_byStorms_53 : decode cX9_byStorms 53 = .ok (.iload 5, 2) := by decide +kernel
theorem dX9_byStorms_55 : decode cX9_byStorms 55 = .ok (.imul, 1) := by decide +kernel
theorem dX9_byStorms_56 : decode cX9_byStorms 56 = .ok (.istore 8, 2) := by decide +kernel
theorem dX9_byStorms_58 : decode cX9_byStorms 58 = .ok (.aload_n 0, 1) := by decide +kernel
theorem dX9_byStorms_59 : decode cX9_byStorms 59 = .ok (.getfield 12, 3) := by decide +kernel
theorem dX9_byStorms_62 : decode cX9_byStorms 62 = .ok (.dup, 1) := by decide +kernel
theorem dX9_byStorms_63 : decode cX9_byStorms 63 = .ok (.getfield 144, 3) := by decide +kernel
theorem dX9_byStorms_66 : decode cX9_byStorms 66 = .ok (.iconst 1, 1) := by decide +kernel
theorem dX9_byStorms_67 : decode cX9_byStorms 67 = .ok (.iadd, 1) := by decide +kernel
theorem dX9_byStorms_68 : decode cX9_byStorms 68 = .ok (.putfield 144, 3) := by decide +kernel
theorem dX9_byStorms_71 : decode cX9_byStorms 71 = .ok (.goto 26, 3) := by decide +kernel
theorem dX9_byStorms_74 : decode cX9_byStorms 74 = .ok (.iload 8, 2) := by decide +kernel
theorem dX9_byStorms_76 : decode cX9_byStorms 76 = .ok (.bipush 10, 2) := by decide +kernel
theorem dX9_byStorms_78 : decode cX9_byStorms 78 = .ok (.iload 5, 2) := by decide +kernel
theorem dX9_byStorms_80 : decode cX9_byStorms 80 = .ok (.isub, 1) := by decide +kernel
theorem dX9_byStorms_81 : decode cX9_byStorms 81 = .ok (.imul, 1) := by decide +kernel
theorem dX9_byStorms_82 : decode cX9_byStorms 82 = .ok (.istore 8, 2) := by decide +kernel
theorem dX9_byStorms_84 : decode cX9_byStorms 84 = .ok (.aload_n 0, 1) := by decide +kernel
theorem dX9_byStorms_85 : decode cX9_byStorms 85 = .ok (.getfield 45, 3) := by decide +kernel
theorem dX9_byStorms_88 : decode cX9_byStorms 88 = .ok (.aload_n 0, 1) := by decide +kernel
theorem dX9_byStorms_89 : decode cX9_byStorms 89 = .ok (.getfield 12, 3) := by decide +kernel
theorem dX9_byStorms_92 : decode cX9_byStorms 92 = .ok (.iconst 0, 1) := by decide +kernel
theorem dX9_byStorms_93 : decode cX9_byStorms 93 = .ok (.invokevirtual 80, 3) := by decide +kernel
theorem dX9_byStorms_96 : decode cX9_byStorms 96 = .ok (.pop, 1) := by decide +kernel
theorem dX9_byStorms_97 : decode cX9_byStorms 97 = .ok (.iinc 9 1, 3) := by decide +kernel
theorem dX9_byStorms_100 : decode cX9_byStorms 100 = .ok (.goto (-71), 3) := by decide +kernel
theorem dX9_byStorms_103 : decode cX9_byStorms 103 = .ok (.aload_n 0, 1) := by decide +kernel
theorem dX9_byStorms_104 : decode cX9_byStorms 104 = .ok (.getfield 12, 3) := by decide +kernel
theorem dX9_byStorms_107 : decode cX9_byStorms 107 = .ok (.iload_n 2, 1) := by decide +kernel
theorem dX9_byStorms_108 : decode cX9_byStorms 108 = .ok (.iload_n 3, 1) := by decide +kernel
theorem dX9_byStorms_109 : decode cX9_byStorms 109 = .ok (.invokevirtual 76, 3) := by decide +kernel
theorem dX9_byStorms_112 : decode cX9_byStorms 112 = .ok (.ifCond .eq 10, 3) := by decide +kernel
theorem dX9_byStorms_115 : decode cX9_byStorms 115 = .ok (.iload 6, 2) := by decide +kernel
theorem dX9_byStorms_117 : decode cX9_byStorms 117 = .ok (.iload 8, 2) := by decide +kernel
theorem dX9_byStorms_119 : decode cX9_byStorms 119 = .ok (.iadd, 1) := by decide +kernel
theorem dX9_byStorms_120 : decode cX9_byStorms 120 = .ok (.istore 6, 2) := by decide +kernel
theorem dX9_byStorms_122 : decode cX9_byStorms 122 = .ok (.iinc 7 1, 3) := by decide +kernel
theorem dX9_byStorms_125 : decode cX9_byStorms 125 = .ok (.goto (-119), 3) := by decide +kernel
theorem dX9_byStorms_128 : decode cX9_byStorms 128 = .ok (.iload 6, 2) := by decide +kernel
theorem dX9_byStorms_130 : decode cX9_byStorms 130 = .ok (.ireturn, 1) := by decide +kernel
theorem dX9_play_0 : decode cX9_play 0 = .ok (.iconst 0, 1) := by decide +kernel
theorem dX9_play_1 : decode cX9_play 1 = .ok (.istore 5, 2) := by decide +kernel
theorem dX9_play_3 : decode cX9_play 3 = .ok (.iload 5, 2) := by decide +kernel
theorem dX9_play_5 : decode cX9_play 5 = .ok (.iconst 4, 1) := by decide +kernel
theorem dX9_play_6 : decode cX9_play 6 = .ok (.if_icmp .ge 113, 3) := by decide +kernel
theorem dX9_play_9 : decode cX9_play 9 = .ok (.iload 5, 2) := by decide +kernel
theorem dX9_play_11 : decode cX9_play 11 = .ok (.iconst 1, 1) := by decide +kernel
theorem dX9_play_12 : decode cX9_play 12 = .ok (.ishr, 1) := by decide +kernel
theorem dX9_play_13 : decode cX9_play 13 = .ok (.istore 6, 2) := by decide +kernel
theorem dX9_play_15 : decode cX9_play 15 = .ok (.iload 5, 2) := by decide +kernel
theorem dX9_play_17 : decode cX9_play 17 = .ok (.iconst 1, 1) := by decide +kernel
theorem dX9_play_18 : decode cX9_play 18 = .ok (.iand, 1) := by decide +kernel
theorem dX9_play_19 : decode cX9_play 19 = .ok (.istore 7, 2) := by decide +kernel
theorem dX9_play_21 : decode cX9_play 21 = .ok (.aload_n 0, 1) := by decide +kernel
theorem dX9_play_22 : decode cX9_play 22 = .ok (.getfield 12, 3) := by decide +kernel
theorem dX9_play_25 : decode cX9_play 25 = .ok (.aload_n 1, 1) := by decide +kernel
theorem dX9_play_26 : decode cX9_play 26 = .ok (.invokevirtual 64, 3) := by decide +kernel
theorem dX9_play_29 : decode cX9_play 29 = .ok (.aload_n 0, 1) := by decide +kernel
theorem dX9_play_30 : decode cX9_play 30 = .ok (.getfield 45, 3) := by decide +kernel
theorem dX9_play_33 : decode cX9_play 33 = .ok (.aload_n 0, 1) := by decide +kernel
theorem dX9_play_34 : decode cX9_play 34 = .ok (.getfield 12, 3) := by decide +kernel
theorem dX9_play_37 : decode cX9_play 37 = .ok (.iload 6, 2) := by decide +kernel
theorem dX9_play_39 : decode cX9_play 39 = .ok (.iload_n 3, 1) := by decide +kernel
theorem dX9_play_40 : decode cX9_play 40 = .ok (.ishl, 1) := by decide +kernel
theorem dX9_play_41 : decode cX9_play 41 = .ok (.iload 7, 2) := by decide +kernel
theorem dX9_play_43 : decode cX9_play 43 = .ok (.iload 4, 2) := by decide +kernel
theorem dX9_play_45 : decode cX9_play 45 = .ok (.ishl, 1) := by decide +kernel
theorem dX9_play_46 : decode cX9_play 46 = .ok (.ior, 1) := by decide +kernel
theorem dX9_play_47 : decode cX9_play 47 = .ok (.invokevirtual 80, 3) := by decide +kernel
theorem dX9_play_50 : decode cX9_play 50 = .ok (.pop, 1) := by decide +kernel
theorem dX9_play_51 : decode cX9_play 51 = .ok (.iconst 1, 1) := by decide +kernel
theorem dX9_play_52 : decode cX9_play 52 = .ok (.istore 8, 2) := by decide +kernel
theorem dX9_play_54 : decode cX9_play 54 = .ok (.iload 8, 2) := by decide +kernel
theorem dX9_play_56 : decode cX9_play 56 = .ok (.bipush 6, 2) := by decide +kernel
theorem dX9_play_58 : decode cX9_play 58 = .ok (.if_icmp .ge 22, 3) := by decide +kernel
theorem dX9_play_61 : decode cX9_play 61 = .ok (.aload_n 0, 1) := by decide +kernel
theorem dX9_play_62 : decode cX9_play 62 = .ok (.getfield 45, 3) := by decide +kernel
theorem dX9_play_65 : decode cX9_play 65 = .ok (.aload_n 0, 1) := by decide +kernel
theorem dX9_play_66 : decode cX9_play 66 = .ok (.getfield 12, 3) := by decide +kernel
theorem dX9_play_69 : decode cX9_play 69 = .ok (.iconst 0, 1) := by decide +kernel
theorem dX9_play_70 : decode cX9_play 70 = .ok (.invokevirtual 80, 3) := by decide +kernel
theorem dX9_play_73 : decode cX9_play 73 = .ok (.pop, 1) := by decide +kernel
theorem dX9_play_74 : decode cX9_play 74 = .ok (.iinc 8 1, 3) := by decide +kernel
theorem dX9_play_77 : decode cX9_play 77 = .ok (.goto (-23), 3) := by decide +kernel
theorem dX9_play_80 : decode cX9_play 80 = .ok (.aload_n 0, 1) := by decide +kernel
theorem dX9_play_81 : decode cX9_play 81 = .ok (.getfield 36, 3) := by decide +kernel
theorem dX9_play_84 : decode cX9_play 84 = .ok (.iload 5, 2) := by decide +kernel
theorem dX9_play_86 : decode cX9_play 86 = .ok (.aload_n 0, 1) := by decide +kernel
theorem dX9_play_87 : decode cX9_play 87 = .ok (.iload_n 3, 1) := by decide +kernel
theorem dX9_play_88 : decode cX9_play 88 = .ok (.aload_n 2, 1) := by decide +kernel
theorem dX9_play_89 : decode cX9_play 89 = .ok (.invokevirtual 147, 3) := by decide +kernel
theorem dX9_play_92 : decode cX9_play 92 = .ok (.iload 6, 2) := by decide +kernel
theorem dX9_play_94 : decode cX9_play 94 = .ok (.isub, 1) := by decide +kernel
theorem dX9_play_95 : decode cX9_play 95 = .ok (.iastore, 1) := by decide +kernel
theorem dX9_play_96 : decode cX9_play 96 = .ok (.aload_n 0, 1) := by decide +kernel
theorem dX9_play_97 : decode cX9_play 97 = .ok (.getfield 39, 3) := by decide +kernel
theorem dX9_play_100 : decode cX9_play 100 = .ok (.iload 5, 2) := by decide +kernel
theorem dX9_play_102 : decode cX9_play 102 = .ok (.aload_n 0, 1) := by decide +kernel
theorem dX9_play_103 : decode cX9_play 103 = .ok (.iload 4, 2) := by decide +kernel
theorem dX9_play_105 : decode cX9_play 105 = .ok (.aload_n 2, 1) := by decide +kernel
theorem dX9_play_106 : decode cX9_play 106 = .ok (.invokevirtual 147, 3) := by decide +kernel
theorem dX9_play_109 : decode cX9_play 109 = .ok (.iload 7, 2) := by decide +kernel
theorem dX9_play_111 : decode cX9_play 111 = .ok (.isub, 1) := by decide +kernel
theorem dX9_play_112 : decode cX9_play 112 = .ok (.iastore, 1) := by decide +kernel
theorem dX9_play_113 : decode cX9_play 113 = .ok (.iinc 5 1, 3) := by decide +kernel
theorem dX9_play_116 : decode cX9_play 116 = .ok (.goto (-113), 3) := by decide +kernel
theorem dX9_play_119 : decode cX9_play 119 = .ok (.return_, 1) := by decide +kernel
theorem dX9_gainOf_0 : decode cX9_gainOf 0 = .ok (.aload_n 0, 1) := by decide +kernel
theorem dX9_gainOf_1 : decode cX9_gainOf 1 = .ok (.getfield 12, 3) := by decide +kernel
theorem dX9_gainOf_4 : decode cX9_gainOf 4 = .ok (.iload_n 1, 1) := by decide +kernel
theorem dX9_gainOf_5 : decode cX9_gainOf 5 = .ok (.invokevirtual 151, 3) := by decide +kernel
theorem dX9_gainOf_8 : decode cX9_gainOf 8 = .ok (.istore_n 3, 1) := by decide +kernel
theorem dX9_gainOf_9 : decode cX9_gainOf 9 = .ok (.aload_n 0, 1) := by decide +kernel
theorem dX9_gainOf_10 : decode cX9_gainOf 10 = .ok (.getfield 12, 3) := by decide +kernel
theorem dX9_gainOf_13 : decode cX9_gainOf 13 = .ok (.getfield 133, 3) := by decide +kernel
theorem dX9_gainOf_16 : decode cX9_gainOf 16 = .ok (.aload_n 0, 1) := by decide +kernel
theorem dX9_gainOf_17 : decode cX9_gainOf 17 = .ok (.getfield 12, 3) := by decide +kernel
theorem dX9_gainOf_20 : decode cX9_gainOf 20 = .ok (.getfield 61, 3) := by decide +kernel
theorem dX9_gainOf_23 : decode cX9_gainOf 23 = .ok (.iload_n 1, 1) := by decide +kernel
theorem dX9_gainOf_24 : decode cX9_gainOf 24 = .ok (.iaload, 1) := by decide +kernel
theorem dX9_gainOf_25 : decode cX9_gainOf 25 = .ok (.iaload, 1) := by decide +kernel
theorem dX9_gainOf_26 : decode cX9_gainOf 26 = .ok (.iload_n 3, 1) := by decide +kernel
theorem dX9_gainOf_27 : decode cX9_gainOf 27 = .ok (.aload_n 2, 1) := by decide +kernel
theorem dX9_gainOf_28 : decode cX9_gainOf 28 = .ok (.iload_n 1, 1) := by decide +kernel
theorem dX9_gainOf_29 : decode cX9_gainOf 29 = .ok (.invokevirtual 154, 3) := by decide +kernel
theorem dX9_gainOf_32 : decode cX9_gainOf 32 = .ok (.iand, 1) := by decide +kernel
theorem dX9_gainOf_33 : decode cX9_gainOf 33 = .ok (.invokestatic 136, 3) := by decide +kernel
theorem dX9_gainOf_36 : decode cX9_gainOf 36 = .ok (.iadd, 1) := by decide +kernel
theorem dX9_gainOf_37 : decode cX9_gainOf 37 = .ok (.ireturn, 1) := by decide +kernel
theorem dX9_rests_0 : decode cX9_rests 0 = .ok (.aload_n 0, 1) := by decide +kernel
theorem dX9_rests_1 : decode cX9_rests 1 = .ok (.getfield 36, 3) := by decide +kernel
theorem dX9_rests_4 : decode cX9_rests 4 = .ok (.iload_n 1, 1) := by decide +kernel
theorem dX9_rests_5 : decode cX9_rests 5 = .ok (.iaload, 1) := by decide +kernel
theorem dX9_rests_6 : decode cX9_rests 6 = .ok (.aload_n 0, 1) := by decide +kernel
theorem dX9_rests_7 : decode cX9_rests 7 = .ok (.getfield 36, 3) := by decide +kernel
theorem dX9_rests_10 : decode cX9_rests 10 = .ok (.iload_n 1, 1) := by decide +kernel
theorem dX9_rests_11 : decode cX9_rests 11 = .ok (.iconst 2, 1) := by decide +kernel
theorem dX9_rests_12 : decode cX9_rests 12 = .ok (.ixor, 1) := by decide +kernel
theorem dX9_rests_13 : decode cX9_rests 13 = .ok (.iaload, 1) := by decide +kernel
theorem dX9_rests_14 : decode cX9_rests 14 = .ok (.if_icmp .lt 24, 3) := by decide +kernel
theorem dX9_rests_17 : decode cX9_rests 17 = .ok (.aload_n 0, 1) := by decide +kernel
theorem dX9_rests_18 : decode cX9_rests 18 = .ok (.getfield 39, 3) := by decide +kernel
theorem dX9_rests_21 : decode cX9_rests 21 = .ok (.iload_n 1, 1) := by decide +kernel
theorem dX9_rests_22 : decode cX9_rests 22 = .ok (.iaload, 1) := by decide +kernel
theorem dX9_rests_23 : decode cX9_rests 23 = .ok (.aload_n 0, 1) := by decide +kernel
theorem dX9_rests_24 : decode cX9_rests 24 = .ok (.getfield 39, 3) := by decide +kernel
theorem dX9_rests_27 : decode cX9_rests 27 = .ok (.iload_n 1, 1) := by decide +kernel
theorem dX9_rests_28 : decode cX9_rests 28 = .ok (.iconst 1, 1) := by decide +kernel
theorem dX9_rests_29 : decode cX9_rests 29 = .ok (.ixor, 1) := by decide +kernel
theorem dX9_rests_30 : decode cX9_rests 30 = .ok (.iaload, 1) := by decide +kernel
theorem dX9_rests_31 : decode cX9_rests 31 = .ok (.if_icmp .lt 7, 3) := by decide +kernel
theorem dX9_rests_34 : decode cX9_rests 34 = .ok (.iconst 1, 1) := by decide +kernel
theorem dX9_rests_35 : decode cX9_rests 35 = .ok (.goto 4, 3) := by decide +kernel
theorem dX9_rests_38 : decode cX9_rests 38 = .ok (.iconst 0, 1) := by decide +kernel
theorem dX9_rests_39 : decode cX9_rests 39 = .ok (.ireturn, 1) := by decide +kernel
theorem dX9_restsMany_0 : decode cX9_restsMany 0 = .ok (.iconst 0, 1) := by decide +kernel
theorem dX9_restsMany_1 : decode cX9_restsMany 1 = .ok (.istore_n 1, 1) := by decide +kernel
theorem dX9_restsMany_2 : decode cX9_restsMany 2 = .ok (.iconst 0, 1) := by decide +kernel
theorem dX9_restsMany_3 : decode cX9_restsMany 3 = .ok (.istore_n 2, 1) := by decide +kernel
theorem dX9_restsMany_4 : decode cX9_restsMany 4 = .ok (.iload_n 2, 1) := by decide +kernel
theorem dX9_restsMany_5 : decode cX9_restsMany 5 = .ok (.iconst 4, 1) := by decide +kernel
theorem dX9_restsMany_6 : decode cX9_restsMany 6 = .ok (.if_icmp .ge 20, 3) := by decide +kernel
theorem dX9_restsMany_9 : decode cX9_restsMany 9 = .ok (.aload_n 0, 1) := by decide +kernel
theorem dX9_restsMany_10 : decode cX9_restsMany 10 = .ok (.iload_n 2, 1) := by decide +kernel
theorem dX9_restsMany_11 : decode cX9_restsMany 11 = .ok (.invokevirtual 159, 3) := by decide +kernel
theorem dX9_restsMany_14 : decode cX9_restsMany 14 = .ok (.ifCond .eq 6, 3) := by decide +kernel
theorem dX9_restsMany_17 : decode cX9_restsMany 17 = .ok (.iinc 1 1, 3) := by decide +kernel
theorem dX9_restsMany_20 : decode cX9_restsMany 20 = .ok (.iinc 2 1, 3) := by decide +kernel
theorem dX9_restsMany_23 : decode cX9_restsMany 23 = .ok (.goto (-19), 3) := by decide +kernel
theorem dX9_restsMany_26 : decode cX9_restsMany 26 = .ok (.iload_n 1, 1) := by decide +kernel
theorem dX9_restsMany_27 : decode cX9_restsMany 27 = .ok (.ireturn, 1) := by decide +kernel
theorem dX9_restsFirst_0 : decode cX9_restsFirst 0 = .ok (.iconst 0, 1) := by decide +kernel
theorem dX9_restsFirst_1 : decode cX9_restsFirst 1 = .ok (.istore_n 1, 1) := by decide +kernel
theorem dX9_restsFirst_2 : decode cX9_restsFirst 2 = .ok (.iload_n 1, 1) := by decide +kernel
theorem dX9_restsFirst_3 : decode cX9_restsFirst 3 = .ok (.iconst 4, 1) := by decide +kernel
theorem dX9_restsFirst_4 : decode cX9_restsFirst 4 = .ok (.if_icmp .ge 28, 3) := by decide +kernel
theorem dX9_restsFirst_7 : decode cX9_restsFirst 7 = .ok (.aload_n 0, 1) := by decide +kernel
theorem dX9_restsFirst_8 : decode cX9_restsFirst 8 = .ok (.iload_n 1, 1) := by decide +kernel
theorem dX9_restsFirst_9 : decode cX9_restsFirst 9 = .ok (.invokevirtual 159, 3) := by decide +kernel
theorem dX9_restsFirst_12 : decode cX9_restsFirst 12 = .ok (.ifCond .eq 14, 3) := by decide +kernel
theorem dX9_restsFirst_15 : decode cX9_restsFirst 15 = .ok (.bipush 10, 2) := by decide +kernel
theorem dX9_restsFirst_17 : decode cX9_restsFirst 17 = .ok (.iload_n 1, 1) := by decide +kernel
theorem dX9_restsFirst_18 : decode cX9_restsFirst 18 = .ok (.iconst 1, 1) := by decide +kernel
theorem dX9_restsFirst_19 : decode cX9_restsFirst 19 = .ok (.ishr, 1) := by decide +kernel
theorem dX9_restsFirst_20 : decode cX9_restsFirst 20 = .ok (.imul, 1) := by decide +kernel
theorem dX9_restsFirst_21 : decode cX9_restsFirst 21 = .ok (.iload_n 1, 1) := by decide +kernel
theorem dX9_restsFirst_22 : decode cX9_restsFirst 22 = .ok (.iconst 1, 1) := by decide +kernel
theorem dX9_restsFirst_23 : decode cX9_restsFirst 23 = .ok (.iand, 1) := by decide +kernel
theorem dX9_restsFirst_24 : decode cX9_restsFirst 24 = .ok (.iadd, 1) := by decide +kernel
theorem dX9_restsFirst_25 : decode cX9_restsFirst 25 = .ok (.ireturn, 1) := by decide +kernel
theorem dX9_restsFirst_26 : decode cX9_restsFirst 26 = .ok (.iinc 1 1, 3) := by decide +kernel
theorem dX9_restsFirst_29 : decode cX9_restsFirst 29 = .ok (.goto (-27), 3) := by decide +kernel
theorem dX9_restsFirst_32 : decode cX9_restsFirst 32 = .ok (.iconst (-1), 1) := by decide +kernel
theorem dX9_restsFirst_33 : decode cX9_restsFirst 33 = .ok (.ireturn, 1) := by decide +kernel
theorem dX9_liveYears_0 : decode cX9_liveYears 0 = .ok (.aload_n 0, 1) := by decide +kernel
theorem dX9_liveYears_1 : decode cX9_liveYears 1 = .ok (.iload_n 2, 1) := by decide +kernel
theorem dX9_liveYears_2 : decode cX9_liveYears 2 = .ok (.putfield 42, 3) := by decide +kernel
theorem dX9_liveYears_5 : decode cX9_liveYears 5 = .ok (.aload_n 0, 1) := by decide +kernel
theorem dX9_liveYears_6 : decode cX9_liveYears 6 = .ok (.getfield 12, 3) := by decide +kernel
theorem dX9_liveYears_9 : decode cX9_liveYears 9 = .ok (.aload_n 1, 1) := by decide +kernel
theorem dX9_liveYears_10 : decode cX9_liveYears 10 = .ok (.invokevirtual 64, 3) := by decide +kernel
theorem dX9_liveYears_13 : decode cX9_liveYears 13 = .ok (.iconst 0, 1) := by decide +kernel
theorem dX9_liveYears_14 : decode cX9_liveYears 14 = .ok (.istore 5, 2) := by decide +kernel
theorem dX9_liveYears_16 : decode cX9_liveYears 16 = .ok (.iconst 0, 1) := by decide +kernel
theorem dX9_liveYears_17 : decode cX9_liveYears 17 = .ok (.istore 6, 2) := by decide +kernel
theorem dX9_liveYears_19 : decode cX9_liveYears 19 = .ok (.iload 6, 2) := by decide +kernel
theorem dX9_liveYears_21 : decode cX9_liveYears 21 = .ok (.iload_n 3, 1) := by decide +kernel
theorem dX9_liveYears_22 : decode cX9_liveYears 22 = .ok (.if_icmp .ge 39, 3) := by decide +kernel
theorem dX9_liveYears_25 : decode cX9_liveYears 25 = .ok (.aload_n 0, 1) := by decide +kernel
theorem dX9_liveYears_26 : decode cX9_liveYears 26 = .ok (.aload_n 0, 1) := by decide +kernel
theorem dX9_liveYears_27 : decode cX9_liveYears 27 = .ok (.bipush 6, 2) := by decide +kernel
theorem dX9_liveYears_29 : decode cX9_liveYears 29 = .ok (.invokevirtual 162, 3) := by decide +kernel
theorem dX9_liveYears_32 : decode cX9_liveYears 32 = .ok (.invokevirtual 165, 3) := by decide +kernel
theorem dX9_liveYears_35 : decode cX9_liveYears 35 = .ok (.iload 5, 2) := by decide +kernel
theorem dX9_liveYears_37 : decode cX9_liveYears 37 = .ok (.aload_n 0, 1) := by decide +kernel
theorem dX9_liveYears_38 : decode cX9_liveYears 38 = .ok (.getfield 45, 3) := by decide +kernel
theorem dX9_liveYears_41 : decode cX9_liveYears 41 = .ok (.aload_n 0, 1) := by decide +kernel
theorem dX9_liveYears_42 : decode cX9_liveYears 42 = .ok (.getfield 12, 3) := by decide +kernel
theorem dX9_liveYears_45 : decode cX9_liveYears 45 = .ok (.iconst 0, 1) := by decide +kernel
theorem dX9_liveYears_46 : decode cX9_liveYears 46 = .ok (.invokevirtual 80, 3) := by decide +kernel
theorem dX9_liveYears_49 : decode cX9_liveYears 49 = .ok (.invokestatic 136, 3) := by decide +kernel
theorem dX9_liveYears_52 : decode cX9_liveYears 52 = .ok (.iadd, 1) := by decide +kernel
theorem dX9_liveYears_53 : decode cX9_liveYears 53 = .ok (.istore 5, 2) := by decide +kernel
theorem dX9_liveYears_55 : decode cX9_liveYears 55 = .ok (.iinc 6 1, 3) := by decide +kernel
theorem dX9_liveYears_58 : decode cX9_liveYears 58 = .ok (.goto (-39), 3) := by decide +kernel
theorem dX9_liveYears_61 : decode cX9_liveYears 61 = .ok (.iload 4, 2) := by decide +kernel
theorem dX9_liveYears_63 : decode cX9_liveYears 63 = .ok (.lookupswitch 36 #[(0, 25), (1, 28)], 25) := by decide +kernel
theorem dX9_liveYears_88 : decode cX9_liveYears 88 = .ok (.iload 5, 2) := by decide +kernel
theorem dX9_liveYears_90 : decode cX9_liveYears 90 = .ok (.ireturn, 1) := by decide +kernel
theorem dX9_liveYears_91 : decode cX9_liveYears 91 = .ok (.aload_n 0, 1) := by decide +kernel
theorem dX9_liveYears_92 : decode cX9_liveYears 92 = .ok (.getfield 12, 3) := by decide +kernel
theorem dX9_liveYears_95 : decode cX9_liveYears 95 = .ok (.getfield 58, 3) := by decide +kernel
theorem dX9_liveYears_98 : decode cX9_liveYears 98 = .ok (.ireturn, 1) := by decide +kernel
theorem dX9_liveYears_99 : decode cX9_liveYears 99 = .ok (.aload_n 0, 1) := by decide +kernel
theorem dX9_liveYears_100 : decode cX9_liveYears 100 = .ok (.getfield 12, 3) := by decide +kernel
theorem dX9_liveYears_103 : decode cX9_liveYears 103 = .ok (.invokevirtual 169, 3) := by decide +kernel
theorem dX9_liveYears_106 : decode cX9_liveYears 106 = .ok (.ireturn, 1) := by decide +kernel
theorem dX9_befall_0 : decode cX9_befall 0 = .ok (.aload_n 0, 1) := by decide +kernel
theorem dX9_befall_1 : decode cX9_befall 1 = .ok (.getfield 12, 3) := by decide +kernel
theorem dX9_befall_4 : decode cX9_befall 4 = .ok (.getfield 55, 3) := by decide +kernel
theorem dX9_befall_7 : decode cX9_befall 7 = .ok (.ifCond .ne 4, 3) := by decide +kernel
theorem dX9_befall_10 : decode cX9_befall 10 = .ok (.return_, 1) := by decide +kernel
theorem dX9_befall_11 : decode cX9_befall 11 = .ok (.iload_n 1, 1) := by decide +kernel
theorem dX9_befall_12 : decode cX9_befall 12 = .ok (.ifCond .ne 37, 3) := by decide +kernel
theorem dX9_befall_15 : decode cX9_befall 15 = .ok (.aload_n 0, 1) := by decide +kernel
theorem dX9_befall_16 : decode cX9_befall 16 = .ok (.aload_n 0, 1) := by decide +kernel
theorem dX9_befall_17 : decode cX9_befall 17 = .ok (.getfield 12, 3) := by decide +kernel
theorem dX9_befall_20 : decode cX9_befall 20 = .ok (.getfield 55, 3) := by decide +kernel
theorem dX9_befall_23 : decode cX9_befall 23 = .ok (.invokevirtual 162, 3) := by decide +kernel
theorem dX9_befall_26 : decode cX9_befall 26 = .ok (.istore_n 2, 1) := by decide +kernel
theorem dX9_befall_27 : decode cX9_befall 27 = .ok (.aload_n 0, 1) := by decide +kernel
theorem dX9_befall_28 : decode cX9_befall 28 = .ok (.getfield 12, 3) := by decide +kernel
theorem dX9_befall_31 : decode cX9_befall 31 = .ok (.iload_n 2, 1) := by decide +kernel
theorem dX9_befall_32 : decode cX9_befall 32 = .ok (.invokevirtual 172, 3) := by decide +kernel
theorem dX9_befall_35 : decode cX9_befall 35 = .ok (.ifCond .ne 11, 3) := by decide +kernel
theorem dX9_befall_38 : decode cX9_befall 38 = .ok (.aload_n 0, 1) := by decide +kernel
theorem dX9_befall_39 : decode cX9_befall 39 = .ok (.getfield 12, 3) := by decide +kernel
theorem dX9_befall_42 : decode cX9_befall 42 = .ok (.iload_n 2, 1) := by decide +kernel
theorem dX9_befall_43 : decode cX9_befall 43 = .ok (.invokevirtual 175, 3) := by decide +kernel
theorem dX9_befall_46 : decode cX9_befall 46 = .ok (.goto 68, 3) := by decide +kernel
theorem dX9_befall_49 : decode cX9_befall 49 = .ok (.iload_n 1, 1) := by decide +kernel
theorem dX9_befall_50 : decode cX9_befall 50 = .ok (.iconst 1, 1) := by decide +kernel
theorem dX9_befall_51 : decode cX9_befall 51 = .ok (.if_icmp .ne 33, 3) := by decide +kernel
theorem dX9_befall_54 : decode cX9_befall 54 = .ok (.aload_n 0, 1) := by decide +kernel
theorem dX9_befall_55 : decode cX9_befall 55 = .ok (.aload_n 0, 1) := by decide +kernel
theorem dX9_befall_56 : decode cX9_befall 56 = .ok (.getfield 12, 3) := by decide +kernel
theorem dX9_befall_59 : decode cX9_befall 59 = .ok (.getfield 55, 3) := by decide +kernel
theorem dX9_befall_62 : decode cX9_befall 62 = .ok (.invokevirtual 162, 3) := by decide +kernel
theorem dX9_befall_65 : decode cX9_befall 65 = .ok (.istore_n 2, 1) := by decide +kernel
theorem dX9_befall_66 : decode cX9_befall 66 = .ok (.aload_n 0, 1) := by decide +kernel
theorem dX9_befall_67 : decode cX9_befall 67 = .ok (.getfield 12, 3) := by decide +kernel
theorem dX9_befall_70 : decode cX9_befall 70 = .ok (.getfield 127, 3) := by decide +kernel
theorem dX9_befall_73 : decode cX9_befall 73 = .ok (.iload_n 2, 1) := by decide +kernel
theorem dX9_befall_74 : decode cX9_befall 74 = .ok (.aload_n 0, 1) := by decide +kernel
theorem dX9_befall_75 : decode cX9_befall 75 = .ok (.bipush 10, 2) := by decide +kernel
theorem dX9_befall_77 : decode cX9_befall 77 = .ok (.invokevirtual 162, 3) := by decide +kernel
theorem dX9_befall_80 : decode cX9_befall 80 = .ok (.iastore, 1) := by decide +kernel
theorem dX9_befall_81 : decode cX9_befall 81 = .ok (.goto 33, 3) := by decide +kernel
theorem dX9_befall_84 : decode cX9_befall 84 = .ok (.iload_n 1, 1) := by decide +kernel
theorem dX9_befall_85 : decode cX9_befall 85 = .ok (.iconst 2, 1) := by decide +kernel
theorem dX9_befall_86 : decode cX9_befall 86 = .ok (.if_icmp .ne 28, 3) := by decide +kernel
theorem dX9_befall_89 : decode cX9_befall 89 = .ok (.aload_n 0, 1) := by decide +kernel
theorem dX9_befall_90 : decode cX9_befall 90 = .ok (.aload_n 0, 1) := by decide +kernel
theorem dX9_befall_91 : decode cX9_befall 91 = .ok (.getfield 12, 3) := by decide +kernel
theorem dX9_befall_94 : decode cX9_befall 94 = .ok (.getfield 58, 3) := by decide +kernel
theorem dX9_befall_97 : decode cX9_befall 97 = .ok (.invokevirtual 162, 3) := by decide +kernel
theorem dX9_befall_100 : decode cX9_befall 100 = .ok (.istore_n 2, 1) := by decide +kernel
theorem dX9_befall_101 : decode cX9_befall 101 = .ok (.iload_n 2, 1) := by decide +kernel
theorem dX9_befall_102 : decode cX9_befall 102 = .ok (.ifCond .eq 12, 3) := by decide +kernel
theorem dX9_befall_105 : decode cX9_befall 105 = .ok (.aload_n 0, 1) := by decide +kernel
theorem dX9_befall_106 : decode cX9_befall 106 = .ok (.getfield 12, 3) := by decide +kernel
theorem dX9_befall_109 : decode cX9_befall 109 = .ok (.iload_n 2, 1) := by decide +kernel
theorem dX9_befall_110 : decode cX9_befall 110 = .ok (.iconst 0, 1) := by decide +kernel
theorem dX9_befall_111 : decode cX9_befall 111 = .ok (.invokevirtual 86, 3) := by decide +kernel
theorem dX9_befall_114 : decode cX9_befall 114 = .ok (.return_, 1) := by decide +kernel
theorem dX9_draw_0 : decode cX9_draw 0 = .ok (.aload_n 0, 1) := by decide +kernel
theorem dX9_draw_1 : decode cX9_draw 1 = .ok (.aload_n 0, 1) := by decide +kernel
theorem dX9_draw_2 : decode cX9_draw 2 = .ok (.getfield 42, 3) := by decide +kernel
theorem dX9_draw_5 : decode cX9_draw 5 = .ok (.ldc 178, 2) := by decide +kernel
theorem dX9_draw_7 : decode cX9_draw 7 = .ok (.imul, 1) := by decide +kernel
theorem dX9_draw_8 : decode cX9_draw 8 = .ok (.sipush 12345, 3) := by decide +kernel
theorem dX9_draw_11 : decode cX9_draw 11 = .ok (.iadd, 1) := by decide +kernel
theorem dX9_draw_12 : decode cX9_draw 12 = .ok (.putfield 42, 3) := by decide +kernel
theorem dX9_draw_15 : decode cX9_draw 15 = .ok (.iload_n 1, 1) := by decide +kernel
theorem dX9_draw_16 : decode cX9_draw 16 = .ok (.ifCond .le 19, 3) := by decide +kernel
theorem dX9_draw_19 : decode cX9_draw 19 = .ok (.aload_n 0, 1) := by decide +kernel
theorem dX9_draw_20 : decode cX9_draw 20 = .ok (.getfield 42, 3) := by decide +kernel
theorem dX9_draw_23 : decode cX9_draw 23 = .ok (.bipush 16, 2) := by decide +kernel
theorem dX9_draw_25 : decode cX9_draw 25 = .ok (.iushr, 1) := by decide +kernel
theorem dX9_draw_26 : decode cX9_draw 26 = .ok (.sipush 32767, 3) := by decide +kernel
theorem dX9_draw_29 : decode cX9_draw 29 = .ok (.iand, 1) := by decide +kernel
theorem dX9_draw_30 : decode cX9_draw 30 = .ok (.iload_n 1, 1) := by decide +kernel
theorem dX9_draw_31 : decode cX9_draw 31 = .ok (.irem, 1) := by decide +kernel
theorem dX9_draw_32 : decode cX9_draw 32 = .ok (.goto 4, 3) := by decide +kernel
theorem dX9_draw_35 : decode cX9_draw 35 = .ok (.iconst 0, 1) := by decide +kernel
theorem dX9_draw_36 : decode cX9_draw 36 = .ok (.ireturn, 1) := by decide +kernel
theorem dX10_init_0 : decode cX10_init 0 = .ok (.aload_n 0, 1) := by decide +kernel
theorem dX10_init_1 : decode cX10_init 1 = .ok (.invokespecial 3, 3) := by decide +kernel
theorem dX10_init_4 : decode cX10_init 4 = .ok (.aload_n 0, 1) := by decide +kernel
theorem dX10_init_5 : decode cX10_init 5 = .ok (.iconst 0, 1) := by decide +kernel
theorem dX10_init_6 : decode cX10_init 6 = .ok (.putfield 9, 3) := by decide +kernel
theorem dX10_init_9 : decode cX10_init 9 = .ok (.aload_n 0, 1) := by decide +kernel
theorem dX10_init_10 : decode cX10_init 10 = .ok (.iconst 0, 1) := by decide +kernel
theorem dX10_init_11 : decode cX10_init 11 = .ok (.putfield 15, 3) := by decide +kernel
theorem dX10_init_14 : decode cX10_init 14 = .ok (.aload_n 0, 1) := by decide +kernel
theorem dX10_init_15 : decode cX10_init 15 = .ok (.iconst 0, 1) := by decide +kernel
theorem dX10_init_16 : decode cX10_init 16 = .ok (.putfield 18, 3) := by decide +kernel
theorem dX10_init_19 : decode cX10_init 19 = .ok (.aload_n 0, 1) := by decide +kernel
theorem dX10_init_20 : decode cX10_init 20 = .ok (.bipush 12, 2) := by decide +kernel
theorem dX10_init_22 : decode cX10_init 22 = .ok (.newarray .int, 2) := by decide +kernel
theorem dX10_init_24 : decode cX10_init 24 = .ok (.putfield 21, 3) := by decide +kernel
theorem dX10_init_27 : decode cX10_init 27 = .ok (.aload_n 0, 1) := by decide +kernel
theorem dX10_init_28 : decode cX10_init 28 = .ok (.bipush 12, 2) := by decide +kernel
theorem dX10_init_30 : decode cX10_init 30 = .ok (.newarray .int, 2) := by decide +kernel
theorem dX10_init_32 : decode cX10_init 32 = .ok (.putfield 25, 3) := by decide +kernel
theorem dX10_init_35 : decode cX10_init 35 = .ok (.aload_n 0, 1) := by decide +kernel
theorem dX10_init_36 : decode cX10_init 36 = .ok (.bipush 12, 2) := by decide +kernel
theorem dX10_init_38 : decode cX10_init 38 = .ok (.newarray .int, 2) := by decide +kernel
theorem dX10_init_40 : decode cX10_init 40 = .ok (.putfield 28, 3) := by decide +kernel
theorem dX10_init_43 : decode cX10_init 43 = .ok (.aload_n 0, 1) := by decide +kernel
theorem dX10_init_44 : decode cX10_init 44 = .ok (.bipush 12, 2) := by decide +kernel
theorem dX10_init_46 : decode cX10_init 46 = .ok (.newarray .int, 2) := by decide +kernel
theorem dX10_init_48 : decode cX10_init 48 = .ok (.putfield 31, 3) := by decide +kernel
theorem dX10_init_51 : decode cX10_init 51 = .ok (.aload_n 0, 1) := by decide +kernel
theorem dX10_init_52 : decode cX10_init 52 = .ok (.bipush 12, 2) := by decide +kernel
theorem dX10_init_54 : decode cX10_init 54 = .ok (.newarray .int, 2) := by decide +kernel
theorem dX10_init_56 : decode cX10_init 56 = .ok (.putfield 34, 3) := by decide +kernel
theorem dX10_init_59 : decode cX10_init 59 = .ok (.aload_n 0, 1) := by decide +kernel
theorem dX10_init_60 : decode cX10_init 60 = .ok (.bipush 13, 2) := by decide +kernel
theorem dX10_init_62 : decode cX10_init 62 = .ok (.newarray .int, 2) := by decide +kernel
theorem dX10_init_64 : decode cX10_init 64 = .ok (.putfield 37, 3) := by decide +kernel
theorem dX10_init_67 : decode cX10_init 67 = .ok (.aload_n 0, 1) := by decide +kernel
theorem dX10_init_68 : decode cX10_init 68 = .ok (.bipush 13, 2) := by decide +kernel
theorem dX10_init_70 : decode cX10_init 70 = .ok (.newarray .int, 2) := by decide +kernel
theorem dX10_init_72 : decode cX10_init 72 = .ok (.putfield 40, 3) := by decide +kernel
theorem dX10_init_75 : decode cX10_init 75 = .ok (.return_, 1) := by decide +kernel
theorem dX10_copyFrom_0 : decode cX10_copyFrom 0 = .ok (.aload_n 0, 1) := by decide +kernel
theorem dX10_copyFrom_1 : decode cX10_copyFrom 1 = .ok (.aload_n 1, 1) := by decide +kernel
theorem dX10_copyFrom_2 : decode cX10_copyFrom 2 = .ok (.getfield 9, 3) := by decide +kernel
theorem dX10_copyFrom_5 : decode cX10_copyFrom 5 = .ok (.putfield 9, 3) := by decide +kernel
theorem dX10_copyFrom_8 : decode cX10_copyFrom 8 = .ok (.aload_n 0, 1) := by decide +kernel
theorem dX10_copyFrom_9 : decode cX10_copyFrom 9 = .ok (.aload_n 1, 1) := by decide +kernel
theorem dX10_copyFrom_10 : decode cX10_copyFrom 10 = .ok (.getfield 15, 3) := by decide +kernel
theorem dX10_copyFrom_13 : decode cX10_copyFrom 13 = .ok (.putfield 15, 3) := by decide +kernel
theorem dX10_copyFrom_16 : decode cX10_copyFrom 16 = .ok (.aload_n 0, 1) := by decide +kernel
theorem dX10_copyFrom_17 : decode cX10_copyFrom 17 = .ok (.aload_n 1, 1) := by decide +kernel
theorem dX10_copyFrom_18 : decode cX10_copyFrom 18 = .ok (.getfield 18, 3) := by decide +kernel
theorem dX10_copyFrom_21 : decode cX10_copyFrom 21 = .ok (.putfield 18, 3) := by decide +kernel
theorem dX10_copyFrom_24 : decode cX10_copyFrom 24 = .ok (.aload_n 1, 1) := by decide +kernel
theorem dX10_copyFrom_25 : decode cX10_copyFrom 25 = .ok (.getfield 21, 3) := by decide +kernel
theorem dX10_copyFrom_28 : decode cX10_copyFrom 28 = .ok (.iconst 0, 1) := by decide +kernel
theorem dX10_copyFrom_29 : decode cX10_copyFrom 29 = .ok (.aload_n 0, 1) := by decide +kernel
theorem dX10_copyFrom_30 : decode cX10_copyFrom 30 = .ok (.getfield 21, 3) := by decide +kernel
theorem dX10_copyFrom_33 : decode cX10_copyFrom 33 = .ok (.iconst 0, 1) := by decide +kernel
theorem dX10_copyFrom_34 : decode cX10_copyFrom 34 = .ok (.bipush 12, 2) := by decide +kernel
theorem dX10_copyFrom_36 : decode cX10_copyFrom 36 = .ok (.invokestatic 43, 3) := by decide +kernel
theorem dX10_copyFrom_39 : decode cX10_copyFrom 39 = .ok (.aload_n 1, 1) := by decide +kernel
theorem dX10_copyFrom_40 : decode cX10_copyFrom 40 = .ok (.getfield 25, 3) := by decide +kernel
theorem dX10_copyFrom_43 : decode cX10_copyFrom 43 = .ok (.iconst 0, 1) := by decide +kernel
theorem dX10_copyFrom_44 : decode cX10_copyFrom 44 = .ok (.aload_n 0, 1) := by decide +kernel
theorem dX10_copyFrom_45 : decode cX10_copyFrom 45 = .ok (.getfield 25, 3) := by decide +kernel
theorem dX10_copyFrom_48 : decode cX10_copyFrom 48 = .ok (.iconst 0, 1) := by decide +kernel
theorem dX10_copyFrom_49 : decode cX10_copyFrom 49 = .ok (.bipush 12, 2) := by decide +kernel
theorem dX10_copyFrom_51 : decode cX10_copyFrom 51 = .ok (.invokestatic 43, 3) := by decide +kernel
theorem dX10_copyFrom_54 : decode cX10_copyFrom 54 = .ok (.aload_n 1, 1) := by decide +kernel
theorem dX10_copyFrom_55 : decode cX10_copyFrom 55 = .ok (.getfield 28, 3) := by decide +kernel
theorem dX10_copyFrom_58 : decode cX10_copyFrom 58 = .ok (.iconst 0, 1) := by decide +kernel
theorem dX10_copyFrom_59 : decode cX10_copyFrom 59 = .ok (.aload_n 0, 1) := by decide +kernel
theorem dX10_copyFrom_60 : decode cX10_copyFrom 60 = .ok (.getfield 28, 3) := by decide +kernel
theorem dX10_copyFrom_63 : decode cX10_copyFrom 63 = .ok (.iconst 0, 1) := by decide +kernel
theorem dX10_copyFrom_64 : decode cX10_copyFrom 64 = .ok (.bipush 12, 2) := by decide +kernel
theorem dX10_copyFrom_66 : decode cX10_copyFrom 66 = .ok (.invokestatic 43, 3) := by decide +kernel
theorem dX10_copyFrom_69 : decode cX10_copyFrom 69 = .ok (.aload_n 1, 1) := by decide +kernel
theorem dX10_copyFrom_70 : decode cX10_copyFrom 70 = .ok (.getfield 31, 3) := by decide +kernel
theorem dX10_copyFrom_73 : decode cX10_copyFrom 73 = .ok (.iconst 0, 1) := by decide +kernel
theorem dX10_copyFrom_74 : decode cX10_copyFrom 74 = .ok (.aload_n 0, 1) := by decide +kernel
theorem dX10_copyFrom_75 : decode cX10_copyFrom 75 = .ok (.getfield 31, 3) := by decide +kernel
theorem dX10_copyFrom_78 : decode cX10_copyFrom 78 = .ok (.iconst 0, 1) := by decide +kernel
theorem dX10_copyFrom_79 : decode cX10_copyFrom 79 = .ok (.bipush 12, 2) := by decide +kernel
theorem dX10_copyFrom_81 : decode cX10_copyFrom 81 = .ok (.invokestatic 43, 3) := by decide +kernel
theorem dX10_copyFrom_84 : decode cX10_copyFrom 84 = .ok (.aload_n 1, 1) := by decide +kernel
theorem dX10_copyFrom_85 : decode cX10_copyFrom 85 = .ok (.getfield 34, 3) := by decide +kernel
theorem dX10_copyFrom_88 : decode cX10_copyFrom 88 = .ok (.iconst 0, 1) := by decide +kernel
theorem dX10_copyFrom_89 : decode cX10_copyFrom 89 = .ok (.aload_n 0, 1) := by decide +kernel
theorem dX10_copyFrom_90 : decode cX10_copyFrom 90 = .ok (.getfield 34, 3) := by decide +kernel
theorem dX10_copyFrom_93 : decode cX10_copyFrom 93 = .ok (.iconst 0, 1) := by decide +kernel
theorem dX10_copyFrom_94 : decode cX10_copyFrom 94 = .ok (.bipush 12, 2) := by decide +kernel
theorem dX10_copyFrom_96 : decode cX10_copyFrom 96 = .ok (.invokestatic 43, 3) := by decide +kernel
theorem dX10_copyFrom_99 : decode cX10_copyFrom 99 = .ok (.aload_n 1, 1) := by decide +kernel
theorem dX10_copyFrom_100 : decode cX10_copyFrom 100 = .ok (.getfield 37, 3) := by decide +kernel
theorem dX10_copyFrom_103 : decode cX10_copyFrom 103 = .ok (.iconst 0, 1) := by decide +kernel
theorem dX10_copyFrom_104 : decode cX10_copyFrom 104 = .ok (.aload_n 0, 1) := by decide +kernel
theorem dX10_copyFrom_105 : decode cX10_copyFrom 105 = .ok (.getfield 37, 3) := by decide +kernel
theorem dX10_copyFrom_108 : decode cX10_copyFrom 108 = .ok (.iconst 0, 1) := by decide +kernel
theorem dX10_copyFrom_109 : decode cX10_copyFrom 109 = .ok (.bipush 13, 2) := by decide +kernel
theorem dX10_copyFrom_111 : decode cX10_copyFrom 111 = .ok (.invokestatic 43, 3) := by decide +kernel
theorem dX10_copyFrom_114 : decode cX10_copyFrom 114 = .ok (.aload_n 1, 1) := by decide +kernel
theorem dX10_copyFrom_115 : decode cX10_copyFrom 115 = .ok (.getfield 40, 3) := by decide +kernel
theorem dX10_copyFrom_118 : decode cX10_copyFrom 118 = .ok (.iconst 0, 1) := by decide +kernel
theorem dX10_copyFrom_119 : decode cX10_copyFrom 119 = .ok (.aload_n 0, 1) := by decide +kernel
theorem dX10_copyFrom_120 : decode cX10_copyFrom 120 = .ok (.getfield 40, 3) := by decide +kernel
theorem dX10_copyFrom_123 : decode cX10_copyFrom 123 = .ok (.iconst 0, 1) := by decide +kernel
theorem dX10_copyFrom_124 : decode cX10_copyFrom 124 = .ok (.bipush 13, 2) := by decide +kernel
theorem dX10_copyFrom_126 : decode cX10_copyFrom 126 = .ok (.invokestatic 43, 3) := by decide +kernel
theorem dX10_copyFrom_129 : decode cX10_copyFrom 129 = .ok (.return_, 1) := by decide +kernel
theorem dX10_clear_0 : decode cX10_clear 0 = .ok (.aload_n 0, 1) := by decide +kernel
theorem dX10_clear_1 : decode cX10_clear 1 = .ok (.iconst 0, 1) := by decide +kernel
theorem dX10_clear_2 : decode cX10_clear 2 = .ok (.putfield 9, 3) := by decide +kernel
theorem dX10_clear_5 : decode cX10_clear 5 = .ok (.aload_n 0, 1) := by decide +kernel
theorem dX10_clear_6 : decode cX10_clear 6 = .ok (.iconst 0, 1) := by decide +kernel
theorem dX10_clear_7 : decode cX10_clear 7 = .ok (.putfield 15, 3) := by decide +kernel
theorem dX10_clear_10 : decode cX10_clear 10 = .ok (.aload_n 0, 1) := by decide +kernel
theorem dX10_clear_11 : decode cX10_clear 11 = .ok (.iconst 0, 1) := by decide +kernel
theorem dX10_clear_12 : decode cX10_clear 12 = .ok (.putfield 18, 3) := by decide +kernel
theorem dX10_clear_15 : decode cX10_clear 15 = .ok (.return_, 1) := by decide +kernel
theorem dX10_addPerson_0 : decode cX10_addPerson 0 = .ok (.aload_n 0, 1) := by decide +kernel
theorem dX10_addPerson_1 : decode cX10_addPerson 1 = .ok (.getfield 9, 3) := by decide +kernel
theorem dX10_addPerson_4 : decode cX10_addPerson 4 = .ok (.bipush 12, 2) := by decide +kernel
theorem dX10_addPerson_6 : decode cX10_addPerson 6 = .ok (.if_icmp .lt 4, 3) := by decide +kernel
theorem dX10_addPerson_9 : decode cX10_addPerson 9 = .ok (.return_, 1) := by decide +kernel
theorem dX10_addPerson_10 : decode cX10_addPerson 10 = .ok (.aload_n 0, 1) := by decide +kernel
theorem dX10_addPerson_11 : decode cX10_addPerson 11 = .ok (.getfield 21, 3) := by decide +kernel
theorem dX10_addPerson_14 : decode cX10_addPerson 14 = .ok (.aload_n 0, 1) := by decide +kernel
theorem dX10_addPerson_15 : decode cX10_addPerson 15 = .ok (.getfield 9, 3) := by decide +kernel
theorem dX10_addPerson_18 : decode cX10_addPerson 18 = .ok (.iload_n 1, 1) := by decide +kernel
theorem dX10_addPerson_19 : decode cX10_addPerson 19 = .ok (.iastore, 1) := by decide +kernel
theorem dX10_addPerson_20 : decode cX10_addPerson 20 = .ok (.aload_n 0, 1) := by decide +kernel
theorem dX10_addPerson_21 : decode cX10_addPerson 21 = .ok (.getfield 25, 3) := by decide +kernel
theorem dX10_addPerson_24 : decode cX10_addPerson 24 = .ok (.aload_n 0, 1) := by decide +kernel
theorem dX10_addPerson_25 : decode cX10_addPerson 25 = .ok (.getfield 9, 3) := by decide +kernel
theorem dX10_addPerson_28 : decode cX10_addPerson 28 = .ok (.iconst (-1), 1) := by decide +kernel
theorem dX10_addPerson_29 : decode cX10_addPerson 29 = .ok (.iastore, 1) := by decide +kernel
theorem dX10_addPerson_30 : decode cX10_addPerson 30 = .ok (.aload_n 0, 1) := by decide +kernel
theorem dX10_addPerson_31 : decode cX10_addPerson 31 = .ok (.getfield 28, 3) := by decide +kernel
theorem dX10_addPerson_34 : decode cX10_addPerson 34 = .ok (.aload_n 0, 1) := by decide +kernel
theorem dX10_addPerson_35 : decode cX10_addPerson 35 = .ok (.getfield 9, 3) := by decide +kernel
theorem dX10_addPerson_38 : decode cX10_addPerson 38 = .ok (.iconst 0, 1) := by decide +kernel
theorem dX10_addPerson_39 : decode cX10_addPerson 39 = .ok (.iastore, 1) := by decide +kernel
theorem dX10_addPerson_40 : decode cX10_addPerson 40 = .ok (.aload_n 0, 1) := by decide +kernel
theorem dX10_addPerson_41 : decode cX10_addPerson 41 = .ok (.getfield 31, 3) := by decide +kernel
theorem dX10_addPerson_44 : decode cX10_addPerson 44 = .ok (.aload_n 0, 1) := by decide +kernel
theorem dX10_addPerson_45 : decode cX10_addPerson 45 = .ok (.getfield 9, 3) := by decide +kernel
theorem dX10_addPerson_48 : decode cX10_addPerson 48 = .ok (.iconst 0, 1) := by decide +kernel
theorem dX10_addPerson_49 : decode cX10_addPerson 49 = .ok (.iastore, 1) := by decide +kernel
theorem dX10_addPerson_50 : decode cX10_addPerson 50 = .ok (.aload_n 0, 1) := by decide +kernel
theorem dX10_addPerson_51 : decode cX10_addPerson 51 = .ok (.getfield 34, 3) := by decide +kernel
theorem dX10_addPerson_54 : decode cX10_addPerson 54 = .ok (.aload_n 0, 1) := by decide +kernel
theorem dX10_addPerson_55 : decode cX10_addPerson 55 = .ok (.getfield 9, 3) := by decide +kernel
theorem dX10_addPerson_58 : decode cX10_addPerson 58 = .ok (.iconst 0, 1) := by decide +kernel
theorem dX10_addPerson_59 : decode cX10_addPerson 59 = .ok (.iastore, 1) := by decide +kernel
theorem dX10_addPerson_60 : decode cX10_addPerson 60 = .ok (.aload_n 0, 1) := by decide +kernel
theorem dX10_addPerson_61 : decode cX10_addPerson 61 = .ok (.dup, 1) := by decide +kernel
theorem dX10_addPerson_62 : decode cX10_addPerson 62 = .ok (.getfield 9, 3) := by decide +kernel
theorem dX10_addPerson_65 : decode cX10_addPerson 65 = .ok (.iconst 1, 1) := by decide +kernel
theorem dX10_addPerson_66 : decode cX10_addPerson 66 = .ok (.iadd, 1) := by decide +kernel
theorem dX10_addPerson_67 : decode cX10_addPerson 67 = .ok (.putfield 9, 3) := by decide +kernel
theorem dX10_addPerson_70 : decode cX10_addPerson 70 = .ok (.return_, 1) := by decide +kernel
theorem dX10_addHouse_0 : decode cX10_addHouse 0 = .ok (.aload_n 0, 1) := by decide +kernel
theorem dX10_addHouse_1 : decode cX10_addHouse 1 = .ok (.getfield 15, 3) := by decide +kernel
theorem dX10_addHouse_4 : decode cX10_addHouse 4 = .ok (.bipush 12, 2) := by decide +kernel
theorem dX10_addHouse_6 : decode cX10_addHouse 6 = .ok (.invokestatic 49, 3) := by decide +kernel
theorem dX10_addHouse_9 : decode cX10_addHouse 9 = .ok (.istore_n 1, 1) := by decide +kernel
theorem dX10_addHouse_10 : decode cX10_addHouse 10 = .ok (.aload_n 0, 1) := by decide +kernel
theorem dX10_addHouse_11 : decode cX10_addHouse 11 = .ok (.getfield 37, 3) := by decide +kernel
theorem dX10_addHouse_14 : decode cX10_addHouse 14 = .ok (.iload_n 1, 1) := by decide +kernel
theorem dX10_addHouse_15 : decode cX10_addHouse 15 = .ok (.iconst 0, 1) := by decide +kernel
theorem dX10_addHouse_16 : decode cX10_addHouse 16 = .ok (.iastore, 1) := by decide +kernel
theorem dX10_addHouse_17 : decode cX10_addHouse 17 = .ok (.aload_n 0, 1) := by decide +kernel
theorem dX10_addHouse_18 : decode cX10_addHouse 18 = .ok (.getfield 40, 3) := by decide +kernel
theorem dX10_addHouse_21 : decode cX10_addHouse 21 = .ok (.iload_n 1, 1) := by decide +kernel
theorem dX10_addHouse_22 : decode cX10_addHouse 22 = .ok (.aload_n 0, 1) := by decide +kernel
theorem dX10_addHouse_23 : decode cX10_addHouse 23 = .ok (.getfield 18, 3) := by decide +kernel
theorem dX10_addHouse_26 : decode cX10_addHouse 26 = .ok (.iastore, 1) := by decide +kernel
theorem dX10_addHouse_27 : decode cX10_addHouse 27 = .ok (.aload_n 0, 1) := by decide +kernel
theorem dX10_addHouse_28 : decode cX10_addHouse 28 = .ok (.iload_n 1, 1) := by decide +kernel
theorem dX10_addHouse_29 : decode cX10_addHouse 29 = .ok (.iconst 1, 1) := by decide +kernel
theorem dX10_addHouse_30 : decode cX10_addHouse 30 = .ok (.iadd, 1) := by decide +kernel
theorem dX10_addHouse_31 : decode cX10_addHouse 31 = .ok (.putfield 15, 3) := by decide +kernel
theorem dX10_addHouse_34 : decode cX10_addHouse 34 = .ok (.iload_n 1, 1) := by decide +kernel
theorem dX10_addHouse_35 : decode cX10_addHouse 35 = .ok (.ireturn, 1) := by decide +kernel
theorem dX10_enter_0 : decode cX10_enter 0 = .ok (.aload_n 0, 1) := by decide +kernel
theorem dX10_enter_1 : decode cX10_enter 1 = .ok (.getfield 25, 3) := by decide +kernel
theorem dX10_enter_4 : decode cX10_enter 4 = .ok (.iload_n 1, 1) := by decide +kernel
theorem dX10_enter_5 : decode cX10_enter 5 = .ok (.iload_n 2, 1) := by decide +kernel
theorem dX10_enter_6 : decode cX10_enter 6 = .ok (.iastore, 1) := by decide +kernel
theorem dX10_enter_7 : decode cX10_enter 7 = .ok (.aload_n 0, 1) := by decide +kernel
theorem dX10_enter_8 : decode cX10_enter 8 = .ok (.getfield 28, 3) := by decide +kernel
theorem dX10_enter_11 : decode cX10_enter 11 = .ok (.iload_n 1, 1) := by decide +kernel
theorem dX10_enter_12 : decode cX10_enter 12 = .ok (.aload_n 0, 1) := by decide +kernel
theorem dX10_enter_13 : decode cX10_enter 13 = .ok (.getfield 37, 3) := by decide +kernel
theorem dX10_enter_16 : decode cX10_enter 16 = .ok (.iload_n 2, 1) := by decide +kernel
theorem dX10_enter_17 : decode cX10_enter 17 = .ok (.iaload, 1) := by decide +kernel
theorem dX10_enter_18 : decode cX10_enter 18 = .ok (.iastore, 1) := by decide +kernel
theorem dX10_enter_19 : decode cX10_enter 19 = .ok (.aload_n 0, 1) := by decide +kernel
theorem dX10_enter_20 : decode cX10_enter 20 = .ok (.getfield 31, 3) := by decide +kernel
theorem dX10_enter_23 : decode cX10_enter 23 = .ok (.iload_n 1, 1) := by decide +kernel
theorem dX10_enter_24 : decode cX10_enter 24 = .ok (.aload_n 0, 1) := by decide +kernel
theorem dX10_enter_25 : decode cX10_enter 25 = .ok (.getfield 18, 3) := by decide +kernel
theorem dX10_enter_28 : decode cX10_enter 28 = .ok (.iastore, 1) := by decide +kernel
theorem dX10_enter_29 : decode cX10_enter 29 = .ok (.aload_n 0, 1) := by decide +kernel
theorem dX10_enter_30 : decode cX10_enter 30 = .ok (.getfield 37, 3) := by decide +kernel
theorem dX10_enter_33 : decode cX10_enter 33 = .ok (.iload_n 2, 1) := by decide +kernel
theorem dX10_enter_34 : decode cX10_enter 34 = .ok (.dup2, 1) := by decide +kernel
theorem dX10_enter_35 : decode cX10_enter 35 = .ok (.iaload, 1) := by decide +kernel
theorem dX10_enter_36 : decode cX10_enter 36 = .ok (.iconst 1, 1) := by decide +kernel
theorem dX10_enter_37 : decode cX10_enter 37 = .ok (.iadd, 1) := by decide +kernel
theorem dX10_enter_38 : decode cX10_enter 38 = .ok (.iastore, 1) := by decide +kernel
theorem dX10_enter_39 : decode cX10_enter 39 = .ok (.return_, 1) := by decide +kernel
theorem dX10_leave_0 : decode cX10_leave 0 = .ok (.aload_n 0, 1) := by decide +kernel
theorem dX10_leave_1 : decode cX10_leave 1 = .ok (.getfield 25, 3) := by decide +kernel
theorem dX10_leave_4 : decode cX10_leave 4 = .ok (.iload_n 1, 1) := by decide +kernel
theorem dX10_leave_5 : decode cX10_leave 5 = .ok (.iaload, 1) := by decide +kernel
theorem dX10_leave_6 : decode cX10_leave 6 = .ok (.istore_n 2, 1) := by decide +kernel
theorem dX10_leave_7 : decode cX10_leave 7 = .ok (.iconst 0, 1) := by decide +kernel
theorem dX10_leave_8 : decode cX10_leave 8 = .ok (.istore_n 3, 1) := by decide +kernel
theorem dX10_leave_9 : decode cX10_leave 9 = .ok (.iload_n 3, 1) := by decide +kernel
theorem dX10_leave_10 : decode cX10_leave 10 = .ok (.aload_n 0, 1) := by decide +kernel
theorem dX10_leave_11 : decode cX10_leave 11 = .ok (.getfield 9, 3) := by decide +kernel
theorem dX10_leave_14 : decode cX10_leave 14 = .ok (.if_icmp .ge 44, 3) := by decide +kernel
theorem dX10_leave_17 : decode cX10_leave 17 = .ok (.aload_n 0, 1) := by decide +kernel
theorem dX10_leave_18 : decode cX10_leave 18 = .ok (.getfield 25, 3) := by decide +kernel
theorem dX10_leave_21 : decode cX10_leave 21 = .ok (.iload_n 3, 1) := by decide +kernel
theorem dX10_leave_22 : decode cX10_leave 22 = .ok (.iaload, 1) := by decide +kernel
theorem dX10_leave_23 : decode cX10_leave 23 = .ok (.iload_n 2, 1) := by decide +kernel
theorem dX10_leave_24 : decode cX10_leave 24 = .ok (.if_icmp .ne 28, 3) := by decide +kernel
theorem dX10_leave_27 : decode cX10_leave 27 = .ok (.aload_n 0, 1) := by decide +kernel
theorem dX10_leave_28 : decode cX10_leave 28 = .ok (.getfield 28, 3) := by decide +kernel
theorem dX10_leave_31 : decode cX10_leave 31 = .ok (.iload_n 3, 1) := by decide +kernel
theorem dX10_leave_32 : decode cX10_leave 32 = .ok (.iaload, 1) := by decide +kernel
theorem dX10_leave_33 : decode cX10_leave 33 = .ok (.aload_n 0, 1) := by decide +kernel
theorem dX10_leave_34 : decode cX10_leave 34 = .ok (.getfield 28, 3) := by decide +kernel
theorem dX10_leave_37 : decode cX10_leave 37 = .ok (.iload_n 1, 1) := by decide +kernel
theorem dX10_leave_38 : decode cX10_leave 38 = .ok (.iaload, 1) := by decide +kernel
theorem dX10_leave_39 : decode cX10_leave 39 = .ok (.if_icmp .le 13, 3) := by decide +kernel
theorem dX10_leave_42 : decode cX10_leave 42 = .ok (.aload_n 0, 1) := by decide +kernel
theorem dX10_leave_43 : decode cX10_leave 43 = .ok (.getfield 28, 3) := by decide +kernel
theorem dX10_leave_46 : decode cX10_leave 46 = .ok (.iload_n 3, 1) := by decide +kernel
theorem dX10_leave_47 : decode cX10_leave 47 = .ok (.dup2, 1) := by decide +kernel
theorem dX10_leave_48 : decode cX10_leave 48 = .ok (.iaload, 1) := by decide +kernel
theorem dX10_leave_49 : decode cX10_leave 49 = .ok (.iconst 1, 1) := by decide +kernel
theorem dX10_leave_50 : decode cX10_leave 50 = .ok (.isub, 1) := by decide +kernel
theorem dX10_leave_51 : decode cX10_leave 51 = .ok (.iastore, 1) := by decide +kernel
theorem dX10_leave_52 : decode cX10_leave 52 = .ok (.iinc 3 1, 3) := by decide +kernel
theorem dX10_leave_55 : decode cX10_leave 55 = .ok (.goto (-46), 3) := by decide +kernel
theorem dX10_leave_58 : decode cX10_leave 58 = .ok (.aload_n 0, 1) := by decide +kernel
theorem dX10_leave_59 : decode cX10_leave 59 = .ok (.getfield 37, 3) := by decide +kernel
theorem dX10_leave_62 : decode cX10_leave 62 = .ok (.iload_n 2, 1) := by decide +kernel
theorem dX10_leave_63 : decode cX10_leave 63 = .ok (.dup2, 1) := by decide +kernel
theorem dX10_leave_64 : decode cX10_leave 64 = .ok (.iaload, 1) := by decide +kernel
theorem dX10_leave_65 : decode cX10_leave 65 = .ok (.iconst 1, 1) := by decide +kernel
theorem dX10_leave_66 : decode cX10_leave 66 = .ok (.isub, 1) := by decide +kernel
theorem dX10_leave_67 : decode cX10_leave 67 = .ok (.iastore, 1) := by decide +kernel
theorem dX10_leave_68 : decode cX10_leave 68 = .ok (.return_, 1) := by decide +kernel
theorem dX10_moveTo_0 : decode cX10_moveTo 0 = .ok (.aload_n 0, 1) := by decide +kernel
theorem dX10_moveTo_1 : decode cX10_moveTo 1 = .ok (.iload_n 1, 1) := by decide +kernel
theorem dX10_moveTo_2 : decode cX10_moveTo 2 = .ok (.invokevirtual 55, 3) := by decide +kernel
theorem dX10_moveTo_5 : decode cX10_moveTo 5 = .ok (.aload_n 0, 1) := by decide +kernel
theorem dX10_moveTo_6 : decode cX10_moveTo 6 = .ok (.iload_n 1, 1) := by decide +kernel
theorem dX10_moveTo_7 : decode cX10_moveTo 7 = .ok (.iload_n 2, 1) := by decide +kernel
theorem dX10_moveTo_8 : decode cX10_moveTo 8 = .ok (.invokevirtual 59, 3) := by decide +kernel
theorem dX10_moveTo_11 : decode cX10_moveTo 11 = .ok (.aload_n 0, 1) := by decide +kernel
theorem dX10_moveTo_12 : decode cX10_moveTo 12 = .ok (.invokevirtual 63, 3) := by decide +kernel
theorem dX10_moveTo_15 : decode cX10_moveTo 15 = .ok (.return_, 1) := by decide +kernel
theorem dX10_foundBy_0 : decode cX10_foundBy 0 = .ok (.aload_n 0, 1) := by decide +kernel
theorem dX10_foundBy_1 : decode cX10_foundBy 1 = .ok (.iload_n 1, 1) := by decide +kernel
theorem dX10_foundBy_2 : decode cX10_foundBy 2 = .ok (.invokevirtual 55, 3) := by decide +kernel
theorem dX10_foundBy_5 : decode cX10_foundBy 5 = .ok (.aload_n 0, 1) := by decide +kernel
theorem dX10_foundBy_6 : decode cX10_foundBy 6 = .ok (.iload_n 1, 1) := by decide +kernel
theorem dX10_foundBy_7 : decode cX10_foundBy 7 = .ok (.aload_n 0, 1) := by decide +kernel
theorem dX10_foundBy_8 : decode cX10_foundBy 8 = .ok (.invokevirtual 66, 3) := by decide +kernel
theorem dX10_foundBy_11 : decode cX10_foundBy 11 = .ok (.invokevirtual 59, 3) := by decide +kernel
theorem dX10_foundBy_14 : decode cX10_foundBy 14 = .ok (.aload_n 0, 1) := by decide +kernel
theorem dX10_foundBy_15 : decode cX10_foundBy 15 = .ok (.invokevirtual 63, 3) := by decide +kernel
theorem dX10_foundBy_18 : decode cX10_foundBy 18 = .ok (.return_, 1) := by decide +kernel
theorem dX10_joinTo_0 : decode cX10_joinTo 0 = .ok (.iconst 0, 1) := by decide +kernel
theorem dX10_joinTo_1 : decode cX10_joinTo 1 = .ok (.istore_n 3, 1) := by decide +kernel
theorem dX10_joinTo_2 : decode cX10_joinTo 2 = .ok (.iload_n 3, 1) := by decide +kernel
theorem dX10_joinTo_3 : decode cX10_joinTo 3 = .ok (.aload_n 0, 1) := by decide +kernel
theorem dX10_joinTo_4 : decode cX10_joinTo 4 = .ok (.getfield 9, 3) := by decide +kernel
theorem dX10_joinTo_7 : decode cX10_joinTo 7 = .ok (.if_icmp .ge 51, 3) := by decide +kernel
theorem dX10_joinTo_10 : decode cX10_joinTo 10 = .ok (.aload_n 0, 1) := by decide +kernel
theorem dX10_joinTo_11 : decode cX10_joinTo 11 = .ok (.getfield 25, 3) := by decide +kernel
theorem dX10_joinTo_14 : decode cX10_joinTo 14 = .ok (.iload_n 3, 1) := by decide +kernel
theorem dX10_joinTo_15 : decode cX10_joinTo 15 = .ok (.iaload, 1) := by decide +kernel
theorem dX10_joinTo_16 : decode cX10_joinTo 16 = .ok (.iload_n 1, 1) := by decide +kernel
theorem dX10_joinTo_17 : decode cX10_joinTo 17 = .ok (.if_icmp .ne 35, 3) := by decide +kernel
theorem dX10_joinTo_20 : decode cX10_joinTo 20 = .ok (.aload_n 0, 1) := by decide +kernel
theorem dX10_joinTo_21 : decode cX10_joinTo 21 = .ok (.getfield 25, 3) := by decide +kernel
theorem dX10_joinTo_24 : decode cX10_joinTo 24 = .ok (.iload_n 3, 1) := by decide +kernel
theorem dX10_joinTo_25 : decode cX10_joinTo 25 = .ok (.iload_n 2, 1) := by decide +kernel
theorem dX10_joinTo_26 : decode cX10_joinTo 26 = .ok (.iastore, 1) := by decide +kernel
theorem dX10_joinTo_27 : decode cX10_joinTo 27 = .ok (.aload_n 0, 1) := by decide +kernel
theorem dX10_joinTo_28 : decode cX10_joinTo 28 = .ok (.getfield 28, 3) := by decide +kernel
theorem dX10_joinTo_31 : decode cX10_joinTo 31 = .ok (.iload_n 3, 1) := by decide +kernel
theorem dX10_joinTo_32 : decode cX10_joinTo 32 = .ok (.dup2, 1) := by decide +kernel
theorem dX10_joinTo_33 : decode cX10_joinTo 33 = .ok (.iaload, 1) := by decide +kernel
theorem dX10_joinTo_34 : decode cX10_joinTo 34 = .ok (.aload_n 0, 1) := by decide +kernel
theorem dX10_joinTo_35 : decode cX10_joinTo 35 = .ok (.getfield 37, 3) := by decide +kernel
theorem dX10_joinTo_38 : decode cX10_joinTo 38 = .ok (.iload_n 2, 1) := by decide +kernel
theorem dX10_joinTo_39 : decode cX10_joinTo 39 = .ok (.iaload, 1) := by decide +kernel
theorem dX10_joinTo_40 : decode cX10_joinTo 40 = .ok (.iadd, 1) := by decide +kernel
theorem dX10_joinTo_41 : decode cX10_joinTo 41 = .ok (.iastore, 1) := by decide +kernel
theorem dX10_joinTo_42 : decode cX10_joinTo 42 = .ok (.aload_n 0, 1) := by decide +kernel
theorem dX10_joinTo_43 : decode cX10_joinTo 43 = .ok (.getfield 31, 3) := by decide +kernel
theorem dX10_joinTo_46 : decode cX10_joinTo 46 = .ok (.iload_n 3, 1) := by decide +kernel
theorem dX10_joinTo_47 : decode cX10_joinTo 47 = .ok (.aload_n 0, 1) := by decide +kernel
theorem dX10_joinTo_48 : decode cX10_joinTo 48 = .ok (.getfield 18, 3) := by decide +kernel
theorem dX10_joinTo_51 : decode cX10_joinTo 51 = .ok (.iastore, 1) := by decide +kernel
theorem dX10_joinTo_52 : decode cX10_joinTo 52 = .ok (.iinc 3 1, 3) := by decide +kernel
theorem dX10_joinTo_55 : decode cX10_joinTo 55 = .ok (.goto (-53), 3) := by decide +kernel
theorem dX10_joinTo_58 : decode cX10_joinTo 58 = .ok (.aload_n 0, 1) := by decide +kernel
theorem dX10_joinTo_59 : decode cX10_joinTo 59 = .ok (.getfield 37, 3) := by decide +kernel
theorem dX10_joinTo_62 : decode cX10_joinTo 62 = .ok (.iload_n 2, 1) := by decide +kernel
theorem dX10_joinTo_63 : decode cX10_joinTo 63 = .ok (.dup2, 1) := by decide +kernel
theorem dX10_joinTo_64 : decode cX10_joinTo 64 = .ok (.iaload, 1) := by decide +kernel
theorem dX10_joinTo_65 : decode cX10_joinTo 65 = .ok (.aload_n 0, 1) := by decide +kernel
theorem dX10_joinTo_66 : decode cX10_joinTo 66 = .ok (.getfield 37, 3) := by decide +kernel
theorem dX10_joinTo_69 : decode cX10_joinTo 69 = .ok (.iload_n 1, 1) := by decide +kernel
theorem dX10_joinTo_70 : decode cX10_joinTo 70 = .ok (.iaload, 1) := by decide +kernel
theorem dX10_joinTo_71 : decode cX10_joinTo 71 = .ok (.iadd, 1) := by decide +kernel
theorem dX10_joinTo_72 : decode cX10_joinTo 72 = .ok (.iastore, 1) := by decide +kernel
theorem dX10_joinTo_73 : decode cX10_joinTo 73 = .ok (.aload_n 0, 1) := by decide +kernel
theorem dX10_joinTo_74 : decode cX10_joinTo 74 = .ok (.getfield 37, 3) := by decide +kernel
theorem dX10_joinTo_77 : decode cX10_joinTo 77 = .ok (.iload_n 1, 1) := by decide +kernel
theorem dX10_joinTo_78 : decode cX10_joinTo 78 = .ok (.iconst 0, 1) := by decide +kernel
theorem dX10_joinTo_79 : decode cX10_joinTo 79 = .ok (.iastore, 1) := by decide +kernel
theorem dX10_joinTo_80 : decode cX10_joinTo 80 = .ok (.aload_n 0, 1) := by decide +kernel
theorem dX10_joinTo_81 : decode cX10_joinTo 81 = .ok (.invokevirtual 63, 3) := by decide +kernel
theorem dX10_joinTo_84 : decode cX10_joinTo 84 = .ok (.return_, 1) := by decide +kernel
theorem dX10_dropEmpty_0 : decode cX10_dropEmpty 0 = .ok (.lconst 0, 1) := by decide +kernel
theorem dX10_dropEmpty_1 : decode cX10_dropEmpty 1 = .ok (.lstore_n 1, 1) := by decide +kernel
theorem dX10_dropEmpty_2 : decode cX10_dropEmpty 2 = .ok (.iconst 0, 1) := by decide +kernel
theorem dX10_dropEmpty_3 : decode cX10_dropEmpty 3 = .ok (.istore_n 3, 1) := by decide +kernel
theorem dX10_dropEmpty_4 : decode cX10_dropEmpty 4 = .ok (.iconst 0, 1) := by decide +kernel
theorem dX10_dropEmpty_5 : decode cX10_dropEmpty 5 = .ok (.istore 4, 2) := by decide +kernel
theorem dX10_dropEmpty_7 : decode cX10_dropEmpty 7 = .ok (.iload 4, 2) := by decide +kernel
theorem dX10_dropEmpty_9 : decode cX10_dropEmpty 9 = .ok (.aload_n 0, 1) := by decide +kernel
theorem dX10_dropEmpty_10 : decode cX10_dropEmpty 10 = .ok (.getfield 15, 3) := by decide +kernel
theorem dX10_dropEmpty_13 : decode cX10_dropEmpty 13 = .ok (.if_icmp .ge 58, 3) := by decide +kernel
theorem dX10_dropEmpty_16 : decode cX10_dropEmpty 16 = .ok (.aload_n 0, 1) := by decide +kernel
theorem dX10_dropEmpty_17 : decode cX10_dropEmpty 17 = .ok (.getfield 37, 3) := by decide +kernel
theorem dX10_dropEmpty_20 : decode cX10_dropEmpty 20 = .ok (.iload 4, 2) := by decide +kernel
theorem dX10_dropEmpty_22 : decode cX10_dropEmpty 22 = .ok (.iaload, 1) := by decide +kernel
theorem dX10_dropEmpty_23 : decode cX10_dropEmpty 23 = .ok (.ifCond .le 42, 3) := by decide +kernel
theorem dX10_dropEmpty_26 : decode cX10_dropEmpty 26 = .ok (.lload_n 1, 1) := by decide +kernel
theorem dX10_dropEmpty_27 : decode cX10_dropEmpty 27 = .ok (.iload_n 3, 1) := by decide +kernel
theorem dX10_dropEmpty_28 : decode cX10_dropEmpty 28 = .ok (.i2l, 1) := by decide +kernel
theorem dX10_dropEmpty_29 : decode cX10_dropEmpty 29 = .ok (.iconst 4, 1) := by decide +kernel
theorem dX10_dropEmpty_30 : decode cX10_dropEmpty 30 = .ok (.iload 4, 2) := by decide +kernel
theorem dX10_dropEmpty_32 : decode cX10_dropEmpty 32 = .ok (.imul, 1) := by decide +kernel
theorem dX10_dropEmpty_33 : decode cX10_dropEmpty 33 = .ok (.lshl, 1) := by decide +kernel
theorem dX10_dropEmpty_34 : decode cX10_dropEmpty 34 = .ok (.lor, 1) := by decide +kernel
theorem dX10_dropEmpty_35 : decode cX10_dropEmpty 35 = .ok (.lstore_n 1, 1) := by decide +kernel
theorem dX10_dropEmpty_36 : decode cX10_dropEmpty 36 = .ok (.aload_n 0, 1) := by decide +kernel
theorem dX10_dropEmpty_37 : decode cX10_dropEmpty 37 = .ok (.getfield 37, 3) := by decide +kernel
theorem dX10_dropEmpty_40 : decode cX10_dropEmpty 40 = .ok (.iload_n 3, 1) := by decide +kernel
theorem dX10_dropEmpty_41 : decode cX10_dropEmpty 41 = .ok (.aload_n 0, 1) := by decide +kernel
theorem dX10_dropEmpty_42 : decode cX10_dropEmpty 42 = .ok (.getfield 37, 3) := by decide +kernel
theorem dX10_dropEmpty_45 : decode cX10_dropEmpty 45 = .ok (.iload 4, 2) := by decide +kernel
theorem dX10_dropEmpty_47 : decode cX10_dropEmpty 47 = .ok (.iaload, 1) := by decide +kernel
theorem dX10_dropEmpty_48 : decode cX10_dropEmpty 48 = .ok (.iastore, 1) := by decide +kernel
theorem dX10_dropEmpty_49 : decode cX10_dropEmpty 49 = .ok (.aload_n 0, 1) := by decide +kernel
theorem dX10_dropEmpty_50 : decode cX10_dropEmpty 50 = .ok (.getfield 40, 3) := by decide +kernel
theorem dX10_dropEmpty_53 : decode cX10_dropEmpty 53 = .ok (.iload_n 3, 1) := by decide +kernel
theorem dX10_dropEmpty_54 : decode cX10_dropEmpty 54 = .ok (.aload_n 0, 1) := by decide +kernel
theorem dX10_dropEmpty_55 : decode cX10_dropEmpty 55 = .ok (.getfield 40, 3) := by decide +kernel
theorem dX10_dropEmpty_58 : decode cX10_dropEmpty 58 = .ok (.iload 4, 2) := by decide +kernel
theorem dX10_dropEmpty_60 : decode cX10_dropEmpty 60 = .ok (.iaload, 1) := by decide +kernel
theorem dX10_dropEmpty_61 : decode cX10_dropEmpty 61 = .ok (.iastore, 1) := by decide +kernel
theorem dX10_dropEmpty_62 : decode cX10_dropEmpty 62 = .ok (.iinc 3 1, 3) := by decide +kernel
theorem dX10_dropEmpty_65 : decode cX10_dropEmpty 65 = .ok (.iinc 4 1, 3) := by decide +kernel
theorem dX10_dropEmpty_68 : decode cX10_dropEmpty 68 = .ok (.goto (-61), 3) := by decide +kernel
theorem dX10_dropEmpty_71 : decode cX10_dropEmpty 71 = .ok (.iload_n 3, 1) := by decide +kernel
theorem dX10_dropEmpty_72 : decode cX10_dropEmpty 72 = .ok (.aload_n 0, 1) := by decide +kernel
theorem dX10_dropEmpty_73 : decode cX10_dropEmpty 73 = .ok (.getfield 15, 3) := by decide +kernel
theorem dX10_dropEmpty_76 : decode cX10_dropEmpty 76 = .ok (.if_icmp .ge 48, 3) := by decide +kernel
theorem dX10_dropEmpty_79 : decode cX10_dropEmpty 79 = .ok (.iconst 0, 1) := by decide +kernel
theorem dX10_dropEmpty_80 : decode cX10_dropEmpty 80 = .ok (.istore 4, 2) := by decide +kernel
theorem dX10_dropEmpty_82 : decode cX10_dropEmpty 82 = .ok (.iload 4, 2) := by decide +kernel
theorem dX10_dropEmpty_84 : decode cX10_dropEmpty 84 = .ok (.aload_n 0, 1) := by decide +kernel
theorem dX10_dropEmpty_85 : decode cX10_dropEmpty 85 = .ok (.getfield 9, 3) := by decide +kernel
theorem dX10_dropEmpty_88 : decode cX10_dropEmpty 88 = .ok (.if_icmp .ge 31, 3) := by decide +kernel
theorem dX10_dropEmpty_91 : decode cX10_dropEmpty 91 = .ok (.aload_n 0, 1) := by decide +kernel
theorem dX10_dropEmpty_92 : decode cX10_dropEmpty 92 = .ok (.getfield 25, 3) := by decide +kernel
theorem dX10_dropEmpty_95 : decode cX10_dropEmpty 95 = .ok (.iload 4, 2) := by decide +kernel
theorem dX10_dropEmpty_97 : decode cX10_dropEmpty 97 = .ok (.lload_n 1, 1) := by decide +kernel
theorem dX10_dropEmpty_98 : decode cX10_dropEmpty 98 = .ok (.iconst 4, 1) := by decide +kernel
theorem dX10_dropEmpty_99 : decode cX10_dropEmpty 99 = .ok (.aload_n 0, 1) := by decide +kernel
theorem dX10_dropEmpty_100 : decode cX10_dropEmpty 100 = .ok (.getfield 25, 3) := by decide +kernel
theorem dX10_dropEmpty_103 : decode cX10_dropEmpty 103 = .ok (.iload 4, 2) := by decide +kernel
theorem dX10_dropEmpty_105 : decode cX10_dropEmpty 105 = .ok (.iaload, 1) := by decide +kernel
theorem dX10_dropEmpty_106 : decode cX10_dropEmpty 106 = .ok (.imul, 1) := by decide +kernel
theorem dX10_dropEmpty_107 : decode cX10_dropEmpty 107 = .ok (.lushr, 1) := by decide +kernel
theorem dX10_dropEmpty_108 : decode cX10_dropEmpty 108 = .ok (.l2i, 1) := by decide +kernel
theorem dX10_dropEmpty_109 : decode cX10_dropEmpty 109 = .ok (.bipush 15, 2) := by decide +kernel
theorem dX10_dropEmpty_111 : decode cX10_dropEmpty 111 = .ok (.iand, 1) := by decide +kernel
theorem dX10_dropEmpty_112 : decode cX10_dropEmpty 112 = .ok (.iastore, 1) := by decide +kernel
theorem dX10_dropEmpty_113 : decode cX10_dropEmpty 113 = .ok (.iinc 4 1, 3) := by decide +kernel
theorem dX10_dropEmpty_116 : decode cX10_dropEmpty 116 = .ok (.goto (-34), 3) := by decide +kernel
theorem dX10_dropEmpty_119 : decode cX10_dropEmpty 119 = .ok (.aload_n 0, 1) := by decide +kernel
theorem dX10_dropEmpty_120 : decode cX10_dropEmpty 120 = .ok (.iload_n 3, 1) := by decide +kernel
theorem dX10_dropEmpty_121 : decode cX10_dropEmpty 121 = .ok (.putfield 15, 3) := by decide +kernel
theorem dX10_dropEmpty_124 : decode cX10_dropEmpty 124 = .ok (.return_, 1) := by decide +kernel
theorem dX10_since_0 : decode cX10_since 0 = .ok (.aload_n 0, 1) := by decide +kernel
theorem dX10_since_1 : decode cX10_since 1 = .ok (.getfield 18, 3) := by decide +kernel
theorem dX10_since_4 : decode cX10_since 4 = .ok (.aload_n 0, 1) := by decide +kernel
theorem dX10_since_5 : decode cX10_since 5 = .ok (.getfield 31, 3) := by decide +kernel
theorem dX10_since_8 : decode cX10_since 8 = .ok (.iload_n 1, 1) := by decide +kernel
theorem dX10_since_9 : decode cX10_since 9 = .ok (.iaload, 1) := by decide +kernel
theorem dX10_since_10 : decode cX10_since 10 = .ok (.isub, 1) := by decide +kernel
theorem dX10_since_11 : decode cX10_since 11 = .ok (.ireturn, 1) := by decide +kernel
theorem dX10_old_0 : decode cX10_old 0 = .ok (.aload_n 0, 1) := by decide +kernel
theorem dX10_old_1 : decode cX10_old 1 = .ok (.getfield 18, 3) := by decide +kernel
theorem dX10_old_4 : decode cX10_old 4 = .ok (.aload_n 0, 1) := by decide +kernel
theorem dX10_old_5 : decode cX10_old 5 = .ok (.getfield 40, 3) := by decide +kernel
theorem dX10_old_8 : decode cX10_old 8 = .ok (.iload_n 1, 1) := by decide +kernel
theorem dX10_old_9 : decode cX10_old 9 = .ok (.iaload, 1) := by decide +kernel
theorem dX10_old_10 : decode cX10_old 10 = .ok (.isub, 1) := by decide +kernel
theorem dX10_old_11 : decode cX10_old 11 = .ok (.ireturn, 1) := by decide +kernel
theorem dX10_inOne_0 : decode cX10_inOne 0 = .ok (.aload_n 0, 1) := by decide +kernel
theorem dX10_inOne_1 : decode cX10_inOne 1 = .ok (.getfield 25, 3) := by decide +kernel
theorem dX10_inOne_4 : decode cX10_inOne 4 = .ok (.iload_n 1, 1) := by decide +kernel
theorem dX10_inOne_5 : decode cX10_inOne 5 = .ok (.iaload, 1) := by decide +kernel
theorem dX10_inOne_6 : decode cX10_inOne 6 = .ok (.aload_n 0, 1) := by decide +kernel
theorem dX10_inOne_7 : decode cX10_inOne 7 = .ok (.getfield 25, 3) := by decide +kernel
theorem dX10_inOne_10 : decode cX10_inOne 10 = .ok (.iload_n 2, 1) := by decide +kernel
theorem dX10_inOne_11 : decode cX10_inOne 11 = .ok (.iaload, 1) := by decide +kernel
theorem dX10_inOne_12 : decode cX10_inOne 12 = .ok (.if_icmp .ne 7, 3) := by decide +kernel
theorem dX10_inOne_15 : decode cX10_inOne 15 = .ok (.iconst 1, 1) := by decide +kernel
theorem dX10_inOne_16 : decode cX10_inOne 16 = .ok (.goto 4, 3) := by decide +kernel
theorem dX10_inOne_19 : decode cX10_inOne 19 = .ok (.iconst 0, 1) := by decide +kernel
theorem dX10_inOne_20 : decode cX10_inOne 20 = .ok (.ireturn, 1) := by decide +kernel
theorem dX10_isAlone_0 : decode cX10_isAlone 0 = .ok (.aload_n 0, 1) := by decide +kernel
theorem dX10_isAlone_1 : decode cX10_isAlone 1 = .ok (.getfield 37, 3) := by decide +kernel
theorem dX10_isAlone_4 : decode cX10_isAlone 4 = .ok (.aload_n 0, 1) := by decide +kernel
theorem dX10_isAlone_5 : decode cX10_isAlone 5 = .ok (.getfield 25, 3) := by decide +kernel
theorem dX10_isAlone_8 : decode cX10_isAlone 8 = .ok (.iload_n 1, 1) := by decide +kernel
theorem dX10_isAlone_9 : decode cX10_isAlone 9 = .ok (.iaload, 1) := by decide +kernel
theorem dX10_isAlone_10 : decode cX10_isAlone 10 = .ok (.iaload, 1) := by decide +kernel
theorem dX10_isAlone_11 : decode cX10_isAlone 11 = .ok (.iconst 1, 1) := by decide +kernel
theorem dX10_isAlone_12 : decode cX10_isAlone 12 = .ok (.if_icmp .ne 7, 3) := by decide +kernel
theorem dX10_isAlone_15 : decode cX10_isAlone 15 = .ok (.iconst 1, 1) := by decide +kernel
theorem dX10_isAlone_16 : decode cX10_isAlone 16 = .ok (.goto 4, 3) := by decide +kernel
theorem dX10_isAlone_19 : decode cX10_isAlone 19 = .ok (.iconst 0, 1) := by decide +kernel
theorem dX10_isAlone_20 : decode cX10_isAlone 20 = .ok (.ireturn, 1) := by decide +kernel
theorem dX10_dwellers_0 : decode cX10_dwellers 0 = .ok (.iconst 0, 1) := by decide +kernel
theorem dX10_dwellers_1 : decode cX10_dwellers 1 = .ok (.istore_n 2, 1) := by decide +kernel
theorem dX10_dwellers_2 : decode cX10_dwellers 2 = .ok (.iconst 0, 1) := by decide +kernel
theorem dX10_dwellers_3 : decode cX10_dwellers 3 = .ok (.istore_n 3, 1) := by decide +kernel
theorem dX10_dwellers_4 : decode cX10_dwellers 4 = .ok (.iload_n 3, 1) := by decide +kernel
theorem dX10_dwellers_5 : decode cX10_dwellers 5 = .ok (.aload_n 0, 1) := by decide +kernel
theorem dX10_dwellers_6 : decode cX10_dwellers 6 = .ok (.getfield 9, 3) := by decide +kernel
theorem dX10_dwellers_9 : decode cX10_dwellers 9 = .ok (.if_icmp .ge 25, 3) := by decide +kernel
theorem dX10_dwellers_12 : decode cX10_dwellers 12 = .ok (.aload_n 0, 1) := by decide +kernel
theorem dX10_dwellers_13 : decode cX10_dwellers 13 = .ok (.getfield 25, 3) := by decide +kernel
theorem dX10_dwellers_16 : decode cX10_dwellers 16 = .ok (.iload_n 3, 1) := by decide +kernel
theorem dX10_dwellers_17 : decode cX10_dwellers 17 = .ok (.iaload, 1) := by decide +kernel
theorem dX10_dwellers_18 : decode cX10_dwellers 18 = .ok (.iload_n 1, 1) := by decide +kernel
theorem dX10_dwellers_19 : decode cX10_dwellers 19 = .ok (.if_icmp .ne 9, 3) := by decide +kernel
theorem dX10_dwellers_22 : decode cX10_dwellers 22 = .ok (.iload_n 2, 1) := by decide +kernel
theorem dX10_dwellers_23 : decode cX10_dwellers 23 = .ok (.iconst 1, 1) := by decide +kernel
theorem dX10_dwellers_24 : decode cX10_dwellers 24 = .ok (.iload_n 3, 1) := by decide +kernel
theorem dX10_dwellers_25 : decode cX10_dwellers 25 = .ok (.ishl, 1) := by decide +kernel
theorem dX10_dwellers_26 : decode cX10_dwellers 26 = .ok (.ior, 1) := by decide +kernel
theorem dX10_dwellers_27 : decode cX10_dwellers 27 = .ok (.istore_n 2, 1) := by decide +kernel
theorem dX10_dwellers_28 : decode cX10_dwellers 28 = .ok (.iinc 3 1, 3) := by decide +kernel
theorem dX10_dwellers_31 : decode cX10_dwellers 31 = .ok (.goto (-27), 3) := by decide +kernel
theorem dX10_dwellers_34 : decode cX10_dwellers 34 = .ok (.iload_n 2, 1) := by decide +kernel
theorem dX10_dwellers_35 : decode cX10_dwellers 35 = .ok (.ireturn, 1) := by decide +kernel
theorem dX10_companions_0 : decode cX10_companions 0 = .ok (.aload_n 0, 1) := by decide +kernel
theorem dX10_companions_1 : decode cX10_companions 1 = .ok (.aload_n 0, 1) := by decide +kernel
theorem dX10_companions_2 : decode cX10_companions 2 = .ok (.getfield 25, 3) := by decide +kernel
theorem dX10_companions_5 : decode cX10_companions 5 = .ok (.iload_n 1, 1) := by decide +kernel
theorem dX10_companions_6 : decode cX10_companions 6 = .ok (.iaload, 1) := by decide +kernel
theorem dX10_companions_7 : decode cX10_companions 7 = .ok (.invokevirtual 70, 3) := by decide +kernel
theorem dX10_companions_10 : decode cX10_companions 10 = .ok (.iconst 1, 1) := by decide +kernel
theorem dX10_companions_11 : decode cX10_companions 11 = .ok (.iload_n 1, 1) := by decide +kernel
theorem dX10_companions_12 : decode cX10_companions 12 = .ok (.ishl, 1) := by decide +kernel
theorem dX10_companions_13 : decode cX10_companions 13 = .ok (.iconst (-1), 1) := by decide +kernel
theorem dX10_companions_14 : decode cX10_companions 14 = .ok (.ixor, 1) := by decide +kernel
theorem dX10_companions_15 : decode cX10_companions 15 = .ok (.iand, 1) := by decide +kernel
theorem dX10_companions_16 : decode cX10_companions 16 = .ok (.ireturn, 1) := by decide +kernel
theorem dX10_ranksIn_0 : decode cX10_ranksIn 0 = .ok (.iconst 0, 1) := by decide +kernel
theorem dX10_ranksIn_1 : decode cX10_ranksIn 1 = .ok (.istore_n 2, 1) := by decide +kernel
theorem dX10_ranksIn_2 : decode cX10_ranksIn 2 = .ok (.iconst 0, 1) := by decide +kernel
theorem dX10_ranksIn_3 : decode cX10_ranksIn 3 = .ok (.istore_n 3, 1) := by decide +kernel
theorem dX10_ranksIn_4 : decode cX10_ranksIn 4 = .ok (.iload_n 3, 1) := by decide +kernel
theorem dX10_ranksIn_5 : decode cX10_ranksIn 5 = .ok (.aload_n 0, 1) := by decide +kernel
theorem dX10_ranksIn_6 : decode cX10_ranksIn 6 = .ok (.getfield 9, 3) := by decide +kernel
theorem dX10_ranksIn_9 : decode cX10_ranksIn 9 = .ok (.if_icmp .ge 28, 3) := by decide +kernel
theorem dX10_ranksIn_12 : decode cX10_ranksIn 12 = .ok (.aload_n 0, 1) := by decide +kernel
theorem dX10_ranksIn_13 : decode cX10_ranksIn 13 = .ok (.getfield 25, 3) := by decide +kernel
theorem dX10_ranksIn_16 : decode cX10_ranksIn 16 = .ok (.iload_n 3, 1) := by decide +kernel
theorem dX10_ranksIn_17 : decode cX10_ranksIn 17 = .ok (.iaload, 1) := by decide +kernel
theorem dX10_ranksIn_18 : decode cX10_ranksIn 18 = .ok (.iload_n 1, 1) := by decide +kernel
theorem dX10_ranksIn_19 : decode cX10_ranksIn 19 = .ok (.if_icmp .ne 12, 3) := by decide +kernel
theorem dX10_ranksIn_22 : decode cX10_ranksIn 22 = .ok (.iload_n 2, 1) := by decide +kernel
theorem dX10_ranksIn_23 : decode cX10_ranksIn 23 = .ok (.aload_n 0, 1) := by decide +kernel
theorem dX10_ranksIn_24 : decode cX10_ranksIn 24 = .ok (.getfield 21, 3) := by decide +kernel
theorem dX10_ranksIn_27 : decode cX10_ranksIn 27 = .ok (.iload_n 3, 1) := by decide +kernel
theorem dX10_ranksIn_28 : decode cX10_ranksIn 28 = .ok (.iaload, 1) := by decide +kernel
theorem dX10_ranksIn_29 : decode cX10_ranksIn 29 = .ok (.iadd, 1) := by decide +kernel
theorem dX10_ranksIn_30 : decode cX10_ranksIn 30 = .ok (.istore_n 2, 1) := by decide +kernel
theorem dX10_ranksIn_31 : decode cX10_ranksIn 31 = .ok (.iinc 3 1, 3) := by decide +kernel
theorem dX10_ranksIn_34 : decode cX10_ranksIn 34 = .ok (.goto (-30), 3) := by decide +kernel
theorem dX10_ranksIn_37 : decode cX10_ranksIn 37 = .ok (.iload_n 2, 1) := by decide +kernel
theorem dX10_ranksIn_38 : decode cX10_ranksIn 38 = .ok (.ireturn, 1) := by decide +kernel
theorem dX10_at_0 : decode cX10_at 0 = .ok (.iconst 0, 1) := by decide +kernel
theorem dX10_at_1 : decode cX10_at 1 = .ok (.istore_n 3, 1) := by decide +kernel
theorem dX10_at_2 : decode cX10_at 2 = .ok (.iload_n 3, 1) := by decide +kernel
theorem dX10_at_3 : decode cX10_at 3 = .ok (.aload_n 0, 1) := by decide +kernel
theorem dX10_at_4 : decode cX10_at 4 = .ok (.getfield 9, 3) := by decide +kernel
theorem dX10_at_7 : decode cX10_at 7 = .ok (.if_icmp .ge 31, 3) := by decide +kernel
theorem dX10_at_10 : decode cX10_at 10 = .ok (.aload_n 0, 1) := by decide +kernel
theorem dX10_at_11 : decode cX10_at 11 = .ok (.getfield 25, 3) := by decide +kernel
theorem dX10_at_14 : decode cX10_at 14 = .ok (.iload_n 3, 1) := by decide +kernel
theorem dX10_at_15 : decode cX10_at 15 = .ok (.iaload, 1) := by decide +kernel
theorem dX10_at_16 : decode cX10_at 16 = .ok (.iload_n 1, 1) := by decide +kernel
theorem dX10_at_17 : decode cX10_at 17 = .ok (.if_icmp .ne 15, 3) := by decide +kernel
theorem dX10_at_20 : decode cX10_at 20 = .ok (.aload_n 0, 1) := by decide +kernel
theorem dX10_at_21 : decode cX10_at 21 = .ok (.getfield 28, 3) := by decide +kernel
theorem dX10_at_24 : decode cX10_at 24 = .ok (.iload_n 3, 1) := by decide +kernel
theorem dX10_at_25 : decode cX10_at 25 = .ok (.iaload, 1) := by decide +kernel
theorem dX10_at_26 : decode cX10_at 26 = .ok (.iload_n 2, 1) := by decide +kernel
theorem dX10_at_27 : decode cX10_at 27 = .ok (.if_icmp .ne 5, 3) := by decide +kernel
theorem dX10_at_30 : decode cX10_at 30 = .ok (.iload_n 3, 1) := by decide +kernel
theorem dX10_at_31 : decode cX10_at 31 = .ok (.ireturn, 1) := by decide +kernel
theorem dX10_at_32 : decode cX10_at 32 = .ok (.iinc 3 1, 3) := by decide +kernel
theorem dX10_at_35 : decode cX10_at 35 = .ok (.goto (-33), 3) := by decide +kernel
theorem dX10_at_38 : decode cX10_at 38 = .ok (.iconst (-1), 1) := by decide +kernel
theorem dX10_at_39 : decode cX10_at 39 = .ok (.ireturn, 1) := by decide +kernel
theorem dX10_greatest_0 : decode cX10_greatest 0 = .ok (.iconst 0, 1) := by decide +kernel
theorem dX10_greatest_1 : decode cX10_greatest 1 = .ok (.istore_n 1, 1) := by decide +kernel
theorem dX10_greatest_2 : decode cX10_greatest 2 = .ok (.iconst 0, 1) := by decide +kernel
theorem dX10_greatest_3 : decode cX10_greatest 3 = .ok (.istore_n 2, 1) := by decide +kernel
theorem dX10_greatest_4 : decode cX10_greatest 4 = .ok (.iload_n 2, 1) := by decide +kernel
theorem dX10_greatest_5 : decode cX10_greatest 5 = .ok (.aload_n 0, 1) := by decide +kernel
theorem dX10_greatest_6 : decode cX10_greatest 6 = .ok (.getfield 15, 3) := by decide +kernel
theorem dX10_greatest_9 : decode cX10_greatest 9 = .ok (.if_icmp .ge 20, 3) := by decide +kernel
theorem dX10_greatest_12 : decode cX10_greatest 12 = .ok (.iload_n 1, 1) := by decide +kernel
theorem dX10_greatest_13 : decode cX10_greatest 13 = .ok (.aload_n 0, 1) := by decide +kernel
theorem dX10_greatest_14 : decode cX10_greatest 14 = .ok (.getfield 37, 3) := by decide +kernel
theorem dX10_greatest_17 : decode cX10_greatest 17 = .ok (.iload_n 2, 1) := by decide +kernel
theorem dX10_greatest_18 : decode cX10_greatest 18 = .ok (.iaload, 1) := by decide +kernel
theorem dX10_greatest_19 : decode cX10_greatest 19 = .ok (.invokestatic 74, 3) := by decide +kernel
theorem dX10_greatest_22 : decode cX10_greatest 22 = .ok (.istore_n 1, 1) := by decide +kernel
theorem dX10_greatest_23 : decode cX10_greatest 23 = .ok (.iinc 2 1, 3) := by decide +kernel
theorem dX10_greatest_26 : decode cX10_greatest 26 = .ok (.goto (-22), 3) := by decide +kernel
theorem dX10_greatest_29 : decode cX10_greatest 29 = .ok (.iload_n 1, 1) := by decide +kernel
theorem dX10_greatest_30 : decode cX10_greatest 30 = .ok (.ireturn, 1) := by decide +kernel
theorem dX10_greatestButFor_0 : decode cX10_greatestButFor 0 = .ok (.iload_n 1, 1) := by decide +kernel
theorem dX10_greatestButFor_1 : decode cX10_greatestButFor 1 = .ok (.istore_n 2, 1) := by decide +kernel
theorem dX10_greatestButFor_2 : decode cX10_greatestButFor 2 = .ok (.aload_n 0, 1) := by decide +kernel
theorem dX10_greatestButFor_3 : decode cX10_greatestButFor 3 = .ok (.getfield 9, 3) := by decide +kernel
theorem dX10_greatestButFor_6 : decode cX10_greatestButFor 6 = .ok (.istore_n 3, 1) := by decide +kernel
theorem dX10_greatestButFor_7 : decode cX10_greatestButFor 7 = .ok (.iload_n 3, 1) := by decide +kernel
theorem dX10_greatestButFor_8 : decode cX10_greatestButFor 8 = .ok (.ifCond .le 47, 3) := by decide +kernel
theorem dX10_greatestButFor_11 : decode cX10_greatestButFor 11 = .ok (.iconst 0, 1) := by decide +kernel
theorem dX10_greatestButFor_12 : decode cX10_greatestButFor 12 = .ok (.istore 4, 2) := by decide +kernel
theorem dX10_greatestButFor_14 : decode cX10_greatestButFor 14 = .ok (.iload 4, 2) := by decide +kernel
theorem dX10_greatestButFor_16 : decode cX10_greatestButFor 16 = .ok (.aload_n 0, 1) := by decide +kernel
theorem dX10_greatestButFor_17 : decode cX10_greatestButFor 17 = .ok (.getfield 15, 3) := by decide +kernel
theorem dX10_greatestButFor_20 : decode cX10_greatestButFor 20 = .ok (.if_icmp .ge 29, 3) := by decide +kernel
theorem dX10_greatestButFor_23 : decode cX10_greatestButFor 23 = .ok (.aload_n 0, 1) := by decide +kernel
theorem dX10_greatestButFor_24 : decode cX10_greatestButFor 24 = .ok (.getfield 37, 3) := by decide +kernel
theorem dX10_greatestButFor_27 : decode cX10_greatestButFor 27 = .ok (.iload 4, 2) := by decide +kernel
theorem dX10_greatestButFor_29 : decode cX10_greatestButFor 29 = .ok (.iaload, 1) := by decide +kernel
theorem dX10_greatestButFor_30 : decode cX10_greatestButFor 30 = .ok (.iload_n 3, 1) := by decide +kernel
theorem dX10_greatestButFor_31 : decode cX10_greatestButFor 31 = .ok (.if_icmp .ne 12, 3) := by decide +kernel
theorem dX10_greatestButFor_34 : decode cX10_greatestButFor 34 = .ok (.iload_n 2, 1) := by decide +kernel
theorem dX10_greatestButFor_35 : decode cX10_greatestButFor 35 = .ok (.ifCond .ne 5, 3) := by decide +kernel
theorem dX10_greatestButFor_38 : decode cX10_greatestButFor 38 = .ok (.iload_n 3, 1) := by decide +kernel
theorem dX10_greatestButFor_39 : decode cX10_greatestButFor 39 = .ok (.ireturn, 1) := by decide +kernel
theorem dX10_greatestButFor_40 : decode cX10_greatestButFor 40 = .ok (.iinc 2 (-1), 3) := by decide +kernel
theorem dX10_greatestButFor_43 : decode cX10_greatestButFor 43 = .ok (.iinc 4 1, 3) := by decide +kernel
theorem dX10_greatestButFor_46 : decode cX10_greatestButFor 46 = .ok (.goto (-32), 3) := by decide +kernel
theorem dX10_greatestButFor_49 : decode cX10_greatestButFor 49 = .ok (.iinc 3 (-1), 3) := by decide +kernel
theorem dX10_greatestButFor_52 : decode cX10_greatestButFor 52 = .ok (.goto (-45), 3) := by decide +kernel
theorem dX10_greatestButFor_55 : decode cX10_greatestButFor 55 = .ok (.iconst (-1), 1) := by decide +kernel
theorem dX10_greatestButFor_56 : decode cX10_greatestButFor 56 = .ok (.ireturn, 1) := by decide +kernel
theorem dX10_alone_0 : decode cX10_alone 0 = .ok (.iconst 0, 1) := by decide +kernel
theorem dX10_alone_1 : decode cX10_alone 1 = .ok (.istore_n 1, 1) := by decide +kernel
theorem dX10_alone_2 : decode cX10_alone 2 = .ok (.iconst 0, 1) := by decide +kernel
theorem dX10_alone_3 : decode cX10_alone 3 = .ok (.istore_n 2, 1) := by decide +kernel
theorem dX10_alone_4 : decode cX10_alone 4 = .ok (.iload_n 2, 1) := by decide +kernel
theorem dX10_alone_5 : decode cX10_alone 5 = .ok (.aload_n 0, 1) := by decide +kernel
theorem dX10_alone_6 : decode cX10_alone 6 = .ok (.getfield 9, 3) := by decide +kernel
theorem dX10_alone_9 : decode cX10_alone 9 = .ok (.if_icmp .ge 23, 3) := by decide +kernel
theorem dX10_alone_12 : decode cX10_alone 12 = .ok (.aload_n 0, 1) := by decide +kernel
theorem dX10_alone_13 : decode cX10_alone 13 = .ok (.iload_n 2, 1) := by decide +kernel
theorem dX10_alone_14 : decode cX10_alone 14 = .ok (.invokevirtual 77, 3) := by decide +kernel
theorem dX10_alone_17 : decode cX10_alone 17 = .ok (.ifCond .eq 9, 3) := by decide +kernel
theorem dX10_alone_20 : decode cX10_alone 20 = .ok (.iload_n 1, 1) := by decide +kernel
theorem dX10_alone_21 : decode cX10_alone 21 = .ok (.iconst 1, 1) := by decide +kernel
theorem dX10_alone_22 : decode cX10_alone 22 = .ok (.iload_n 2, 1) := by decide +kernel
theorem dX10_alone_23 : decode cX10_alone 23 = .ok (.ishl, 1) := by decide +kernel
theorem dX10_alone_24 : decode cX10_alone 24 = .ok (.ior, 1) := by decide +kernel
theorem dX10_alone_25 : decode cX10_alone 25 = .ok (.istore_n 1, 1) := by decide +kernel
theorem dX10_alone_26 : decode cX10_alone 26 = .ok (.iinc 2 1, 3) := by decide +kernel
theorem dX10_alone_29 : decode cX10_alone 29 = .ok (.goto (-25), 3) := by decide +kernel
theorem dX10_alone_32 : decode cX10_alone 32 = .ok (.iload_n 1, 1) := by decide +kernel
theorem dX10_alone_33 : decode cX10_alone 33 = .ok (.ireturn, 1) := by decide +kernel
theorem dX10_isStairs_0 : decode cX10_isStairs 0 = .ok (.iconst 0, 1) := by decide +kernel
theorem dX10_isStairs_1 : decode cX10_isStairs 1 = .ok (.istore_n 1, 1) := by decide +kernel
theorem dX10_isStairs_2 : decode cX10_isStairs 2 = .ok (.iconst 0, 1) := by decide +kernel
theorem dX10_isStairs_3 : decode cX10_isStairs 3 = .ok (.istore_n 2, 1) := by decide +kernel
theorem dX10_isStairs_4 : decode cX10_isStairs 4 = .ok (.iload_n 2, 1) := by decide +kernel
theorem dX10_isStairs_5 : decode cX10_isStairs 5 = .ok (.aload_n 0, 1) := by decide +kernel
theorem dX10_isStairs_6 : decode cX10_isStairs 6 = .ok (.getfield 15, 3) := by decide +kernel
theorem dX10_isStairs_9 : decode cX10_isStairs 9 = .ok (.if_icmp .ge 22, 3) := by decide +kernel
theorem dX10_isStairs_12 : decode cX10_isStairs 12 = .ok (.iload_n 1, 1) := by decide +kernel
theorem dX10_isStairs_13 : decode cX10_isStairs 13 = .ok (.iconst 1, 1) := by decide +kernel
theorem dX10_isStairs_14 : decode cX10_isStairs 14 = .ok (.aload_n 0, 1) := by decide +kernel
theorem dX10_isStairs_15 : decode cX10_isStairs 15 = .ok (.getfield 37, 3) := by decide +kernel
theorem dX10_isStairs_18 : decode cX10_isStairs 18 = .ok (.iload_n 2, 1) := by decide +kernel
theorem dX10_isStairs_19 : decode cX10_isStairs 19 = .ok (.iaload, 1) := by decide +kernel
theorem dX10_isStairs_20 : decode cX10_isStairs 20 = .ok (.iconst 1, 1) := by decide +kernel
theorem dX10_isStairs_21 : decode cX10_isStairs 21 = .ok (.isub, 1) := by decide +kernel
theorem dX10_isStairs_22 : decode cX10_isStairs 22 = .ok (.ishl, 1) := by decide +kernel
theorem dX10_isStairs_23 : decode cX10_isStairs 23 = .ok (.ior, 1) := by decide +kernel
theorem dX10_isStairs_24 : decode cX10_isStairs 24 = .ok (.istore_n 1, 1) := by decide +kernel
theorem dX10_isStairs_25 : decode cX10_isStairs 25 = .ok (.iinc 2 1, 3) := by decide +kernel
theorem dX10_isStairs_28 : decode cX10_isStairs 28 = .ok (.goto (-24), 3) := by decide +kernel
theorem dX10_isStairs_31 : decode cX10_isStairs 31 = .ok (.iload_n 1, 1) := by decide +kernel
theorem dX10_isStairs_32 : decode cX10_isStairs 32 = .ok (.iconst 1, 1) := by decide +kernel
theorem dX10_isStairs_33 : decode cX10_isStairs 33 = .ok (.aload_n 0, 1) := by decide +kernel
theorem dX10_isStairs_34 : decode cX10_isStairs 34 = .ok (.getfield 15, 3) := by decide +kernel
theorem dX10_isStairs_37 : decode cX10_isStairs 37 = .ok (.ishl, 1) := by decide +kernel
theorem dX10_isStairs_38 : decode cX10_isStairs 38 = .ok (.iconst 1, 1) := by decide +kernel
theorem dX10_isStairs_39 : decode cX10_isStairs 39 = .ok (.isub, 1) := by decide +kernel
theorem dX10_isStairs_40 : decode cX10_isStairs 40 = .ok (.if_icmp .ne 7, 3) := by decide +kernel
theorem dX10_isStairs_43 : decode cX10_isStairs 43 = .ok (.iconst 1, 1) := by decide +kernel
theorem dX10_isStairs_44 : decode cX10_isStairs 44 = .ok (.goto 4, 3) := by decide +kernel
theorem dX10_isStairs_47 : decode cX10_isStairs 47 = .ok (.iconst 0, 1) := by decide +kernel
theorem dX10_isStairs_48 : decode cX10_isStairs 48 = .ok (.ireturn, 1) := by decide +kernel
theorem dX10_sizesKey_0 : decode cX10_sizesKey 0 = .ok (.lconst 0, 1) := by decide +kernel
theorem dX10_sizesKey_1 : decode cX10_sizesKey 1 = .ok (.lstore_n 1, 1) := by decide +kernel
theorem dX10_sizesKey_2 : decode cX10_sizesKey 2 = .ok (.iconst 0, 1) := by decide +kernel
theorem dX10_sizesKey_3 : decode cX10_sizesKey 3 = .ok (.istore_n 3, 1) := by decide +kernel
theorem dX10_sizesKey_4 : decode cX10_sizesKey 4 = .ok (.iload_n 3, 1) := by decide +kernel
theorem dX10_sizesKey_5 : decode cX10_sizesKey 5 = .ok (.aload_n 0, 1) := by decide +kernel
theorem dX10_sizesKey_6 : decode cX10_sizesKey 6 = .ok (.getfield 15, 3) := by decide +kernel
theorem dX10_sizesKey_9 : decode cX10_sizesKey 9 = .ok (.if_icmp .ge 24, 3) := by decide +kernel
theorem dX10_sizesKey_12 : decode cX10_sizesKey 12 = .ok (.lload_n 1, 1) := by decide +kernel
theorem dX10_sizesKey_13 : decode cX10_sizesKey 13 = .ok (.lconst 1, 1) := by decide +kernel
theorem dX10_sizesKey_14 : decode cX10_sizesKey 14 = .ok (.iconst 4, 1) := by decide +kernel
theorem dX10_sizesKey_15 : decode cX10_sizesKey 15 = .ok (.aload_n 0, 1) := by decide +kernel
theorem dX10_sizesKey_16 : decode cX10_sizesKey 16 = .ok (.getfield 37, 3) := by decide +kernel
theorem dX10_sizesKey_19 : decode cX10_sizesKey 19 = .ok (.iload_n 3, 1) := by decide +kernel
theorem dX10_sizesKey_20 : decode cX10_sizesKey 20 = .ok (.iaload, 1) := by decide +kernel
theorem dX10_sizesKey_21 : decode cX10_sizesKey 21 = .ok (.iconst 1, 1) := by decide +kernel
theorem dX10_sizesKey_22 : decode cX10_sizesKey 22 = .ok (.isub, 1) := by decide +kernel
theorem dX10_sizesKey_23 : decode cX10_sizesKey 23 = .ok (.imul, 1) := by decide +kernel
theorem dX10_sizesKey_24 : decode cX10_sizesKey 24 = .ok (.lshl, 1) := by decide +kernel
theorem dX10_sizesKey_25 : decode cX10_sizesKey 25 = .ok (.ladd, 1) := by decide +kernel
theorem dX10_sizesKey_26 : decode cX10_sizesKey 26 = .ok (.lstore_n 1, 1) := by decide +kernel
theorem dX10_sizesKey_27 : decode cX10_sizesKey 27 = .ok (.iinc 3 1, 3) := by decide +kernel
theorem dX10_sizesKey_30 : decode cX10_sizesKey 30 = .ok (.goto (-26), 3) := by decide +kernel
theorem dX10_sizesKey_33 : decode cX10_sizesKey 33 = .ok (.lload_n 1, 1) := by decide +kernel
theorem dX10_sizesKey_34 : decode cX10_sizesKey 34 = .ok (.lreturn, 1) := by decide +kernel
theorem dX10_pasts_0 : decode cX10_pasts 0 = .ok (.aload_n 0, 1) := by decide +kernel
theorem dX10_pasts_1 : decode cX10_pasts 1 = .ok (.getfield 9, 3) := by decide +kernel
theorem dX10_pasts_4 : decode cX10_pasts 4 = .ok (.ifCond .ne 5, 3) := by decide +kernel
theorem dX10_pasts_7 : decode cX10_pasts 7 = .ok (.iconst 1, 1) := by decide +kernel
theorem dX10_pasts_8 : decode cX10_pasts 8 = .ok (.ireturn, 1) := by decide +kernel
theorem dX10_pasts_9 : decode cX10_pasts 9 = .ok (.iconst 0, 1) := by decide +kernel
theorem dX10_pasts_10 : decode cX10_pasts 10 = .ok (.istore_n 1, 1) := by decide +kernel
theorem dX10_pasts_11 : decode cX10_pasts 11 = .ok (.iconst 0, 1) := by decide +kernel
theorem dX10_pasts_12 : decode cX10_pasts 12 = .ok (.istore_n 2, 1) := by decide +kernel
theorem dX10_pasts_13 : decode cX10_pasts 13 = .ok (.iload_n 2, 1) := by decide +kernel
theorem dX10_pasts_14 : decode cX10_pasts 14 = .ok (.aload_n 0, 1) := by decide +kernel
theorem dX10_pasts_15 : decode cX10_pasts 15 = .ok (.getfield 15, 3) := by decide +kernel
theorem dX10_pasts_18 : decode cX10_pasts 18 = .ok (.if_icmp .ge 35, 3) := by decide +kernel
theorem dX10_pasts_21 : decode cX10_pasts 21 = .ok (.aload_n 0, 1) := by decide +kernel
theorem dX10_pasts_22 : decode cX10_pasts 22 = .ok (.getfield 37, 3) := by decide +kernel
theorem dX10_pasts_25 : decode cX10_pasts 25 = .ok (.iload_n 2, 1) := by decide +kernel
theorem dX10_pasts_26 : decode cX10_pasts 26 = .ok (.iaload, 1) := by decide +kernel
theorem dX10_pasts_27 : decode cX10_pasts 27 = .ok (.aload_n 0, 1) := by decide +kernel
theorem dX10_pasts_28 : decode cX10_pasts 28 = .ok (.getfield 15, 3) := by decide +kernel
theorem dX10_pasts_31 : decode cX10_pasts 31 = .ok (.iconst 1, 1) := by decide +kernel
theorem dX10_pasts_32 : decode cX10_pasts 32 = .ok (.isub, 1) := by decide +kernel
theorem dX10_pasts_33 : decode cX10_pasts 33 = .ok (.if_icmp .lt 14, 3) := by decide +kernel
theorem dX10_pasts_36 : decode cX10_pasts 36 = .ok (.iload_n 1, 1) := by decide +kernel
theorem dX10_pasts_37 : decode cX10_pasts 37 = .ok (.iconst 1, 1) := by decide +kernel
theorem dX10_pasts_38 : decode cX10_pasts 38 = .ok (.aload_n 0, 1) := by decide +kernel
theorem dX10_pasts_39 : decode cX10_pasts 39 = .ok (.getfield 37, 3) := by decide +kernel
theorem dX10_pasts_42 : decode cX10_pasts 42 = .ok (.iload_n 2, 1) := by decide +kernel
theorem dX10_pasts_43 : decode cX10_pasts 43 = .ok (.iaload, 1) := by decide +kernel
theorem dX10_pasts_44 : decode cX10_pasts 44 = .ok (.ishl, 1) := by decide +kernel
theorem dX10_pasts_45 : decode cX10_pasts 45 = .ok (.ior, 1) := by decide +kernel
theorem dX10_pasts_46 : decode cX10_pasts 46 = .ok (.istore_n 1, 1) := by decide +kernel
theorem dX10_pasts_47 : decode cX10_pasts 47 = .ok (.iinc 2 1, 3) := by decide +kernel
theorem dX10_pasts_50 : decode cX10_pasts 50 = .ok (.goto (-37), 3) := by decide +kernel
theorem dX10_pasts_53 : decode cX10_pasts 53 = .ok (.iload_n 1, 1) := by decide +kernel
theorem dX10_pasts_54 : decode cX10_pasts 54 = .ok (.invokestatic 81, 3) := by decide +kernel
theorem dX10_pasts_57 : decode cX10_pasts 57 = .ok (.ireturn, 1) := by decide +kernel
theorem dX10_steadiest_0 : decode cX10_steadiest 0 = .ok (.iconst (-1), 1) := by decide +kernel
theorem dX10_steadiest_1 : decode cX10_steadiest 1 = .ok (.istore_n 1, 1) := by decide +kernel
theorem dX10_steadiest_2 : decode cX10_steadiest 2 = .ok (.iconst 0, 1) := by decide +kernel
theorem dX10_steadiest_3 : decode cX10_steadiest 3 = .ok (.istore_n 2, 1) := by decide +kernel
theorem dX10_steadiest_4 : decode cX10_steadiest 4 = .ok (.iload_n 2, 1) := by decide +kernel
theorem dX10_steadiest_5 : decode cX10_steadiest 5 = .ok (.aload_n 0, 1) := by decide +kernel
theorem dX10_steadiest_6 : decode cX10_steadiest 6 = .ok (.getfield 9, 3) := by decide +kernel
theorem dX10_steadiest_9 : decode cX10_steadiest 9 = .ok (.if_icmp .ge 31, 3) := by decide +kernel
theorem dX10_steadiest_12 : decode cX10_steadiest 12 = .ok (.iload_n 1, 1) := by decide +kernel
theorem dX10_steadiest_13 : decode cX10_steadiest 13 = .ok (.iconst (-1), 1) := by decide +kernel
theorem dX10_steadiest_14 : decode cX10_steadiest 14 = .ok (.if_icmp .eq 18, 3) := by decide +kernel
theorem dX10_steadiest_17 : decode cX10_steadiest 17 = .ok (.aload_n 0, 1) := by decide +kernel
theorem dX10_steadiest_18 : decode cX10_steadiest 18 = .ok (.getfield 31, 3) := by decide +kernel
theorem dX10_steadiest_21 : decode cX10_steadiest 21 = .ok (.iload_n 2, 1) := by decide +kernel
theorem dX10_steadiest_22 : decode cX10_steadiest 22 = .ok (.iaload, 1) := by decide +kernel
theorem dX10_steadiest_23 : decode cX10_steadiest 23 = .ok (.aload_n 0, 1) := by decide +kernel
theorem dX10_steadiest_24 : decode cX10_steadiest 24 = .ok (.getfield 31, 3) := by decide +kernel
theorem dX10_steadiest_27 : decode cX10_steadiest 27 = .ok (.iload_n 1, 1) := by decide +kernel
theorem dX10_steadiest_28 : decode cX10_steadiest 28 = .ok (.iaload, 1) := by decide +kernel
theorem dX10_steadiest_29 : decode cX10_steadiest 29 = .ok (.if_icmp .ge 5, 3) := by decide +kernel
theorem dX10_steadiest_32 : decode cX10_steadiest 32 = .ok (.iload_n 2, 1) := by decide +kernel
theorem dX10_steadiest_33 : decode cX10_steadiest 33 = .ok (.istore_n 1, 1) := by decide +kernel
theorem dX10_steadiest_34 : decode cX10_steadiest 34 = .ok (.iinc 2 1, 3) := by decide +kernel
theorem dX10_steadiest_37 : decode cX10_steadiest 37 = .ok (.goto (-33), 3) := by decide +kernel
theorem dX10_steadiest_40 : decode cX10_steadiest 40 = .ok (.iload_n 1, 1) := by decide +kernel
theorem dX10_steadiest_41 : decode cX10_steadiest 41 = .ok (.ireturn, 1) := by decide +kernel
theorem dX10_oldest_0 : decode cX10_oldest 0 = .ok (.iconst (-1), 1) := by decide +kernel
theorem dX10_oldest_1 : decode cX10_oldest 1 = .ok (.istore_n 1, 1) := by decide +kernel
theorem dX10_oldest_2 : decode cX10_oldest 2 = .ok (.iconst 0, 1) := by decide +kernel
theorem dX10_oldest_3 : decode cX10_oldest 3 = .ok (.istore_n 2, 1) := by decide +kernel
theorem dX10_oldest_4 : decode cX10_oldest 4 = .ok (.iload_n 2, 1) := by decide +kernel
theorem dX10_oldest_5 : decode cX10_oldest 5 = .ok (.aload_n 0, 1) := by decide +kernel
theorem dX10_oldest_6 : decode cX10_oldest 6 = .ok (.getfield 15, 3) := by decide +kernel
theorem dX10_oldest_9 : decode cX10_oldest 9 = .ok (.if_icmp .ge 19, 3) := by decide +kernel
theorem dX10_oldest_12 : decode cX10_oldest 12 = .ok (.iload_n 1, 1) := by decide +kernel
theorem dX10_oldest_13 : decode cX10_oldest 13 = .ok (.aload_n 0, 1) := by decide +kernel
theorem dX10_oldest_14 : decode cX10_oldest 14 = .ok (.iload_n 2, 1) := by decide +kernel
theorem dX10_oldest_15 : decode cX10_oldest 15 = .ok (.invokevirtual 86, 3) := by decide +kernel
theorem dX10_oldest_18 : decode cX10_oldest 18 = .ok (.invokestatic 74, 3) := by decide +kernel
theorem dX10_oldest_21 : decode cX10_oldest 21 = .ok (.istore_n 1, 1) := by decide +kernel
theorem dX10_oldest_22 : decode cX10_oldest 22 = .ok (.iinc 2 1, 3) := by decide +kernel
theorem dX10_oldest_25 : decode cX10_oldest 25 = .ok (.goto (-21), 3) := by decide +kernel
theorem dX10_oldest_28 : decode cX10_oldest 28 = .ok (.iload_n 1, 1) := by decide +kernel
theorem dX10_oldest_29 : decode cX10_oldest 29 = .ok (.ireturn, 1) := by decide +kernel
theorem dX11_init_0 : decode cX11_init 0 = .ok (.aload_n 0, 1) := by decide +kernel
theorem dX11_init_1 : decode cX11_init 1 = .ok (.invokespecial 1, 3) := by decide +kernel
theorem dX11_init_4 : decode cX11_init 4 = .ok (.aload_n 0, 1) := by decide +kernel
theorem dX11_init_5 : decode cX11_init 5 = .ok (.sipush 700, 3) := by decide +kernel
theorem dX11_init_8 : decode cX11_init 8 = .ok (.newarray .byte, 2) := by decide +kernel
theorem dX11_init_10 : decode cX11_init 10 = .ok (.putfield 9, 3) := by decide +kernel
theorem dX11_init_13 : decode cX11_init 13 = .ok (.aload_n 0, 1) := by decide +kernel
theorem dX11_init_14 : decode cX11_init 14 = .ok (.iconst 0, 1) := by decide +kernel
theorem dX11_init_15 : decode cX11_init 15 = .ok (.putfield 13, 3) := by decide +kernel
theorem dX11_init_18 : decode cX11_init 18 = .ok (.aload_n 0, 1) := by decide +kernel
theorem dX11_init_19 : decode cX11_init 19 = .ok (.iconst (-1), 1) := by decide +kernel
theorem dX11_init_20 : decode cX11_init 20 = .ok (.putfield 17, 3) := by decide +kernel
theorem dX11_init_23 : decode cX11_init 23 = .ok (.aload_n 0, 1) := by decide +kernel
theorem dX11_init_24 : decode cX11_init 24 = .ok (.iconst 3, 1) := by decide +kernel
theorem dX11_init_25 : decode cX11_init 25 = .ok (.newarray .int, 2) := by decide +kernel
theorem dX11_init_27 : decode cX11_init 27 = .ok (.putfield 20, 3) := by decide +kernel
theorem dX11_init_30 : decode cX11_init 30 = .ok (.aload_n 0, 1) := by decide +kernel
theorem dX11_init_31 : decode cX11_init 31 = .ok (.new 24, 3) := by decide +kernel
theorem dX11_init_34 : decode cX11_init 34 = .ok (.dup, 1) := by decide +kernel
theorem dX11_init_35 : decode cX11_init 35 = .ok (.invokespecial 26, 3) := by decide +kernel
theorem dX11_init_38 : decode cX11_init 38 = .ok (.putfield 27, 3) := by decide +kernel
theorem dX11_init_41 : decode cX11_init 41 = .ok (.aload_n 0, 1) := by decide +kernel
theorem dX11_init_42 : decode cX11_init 42 = .ok (.new 31, 3) := by decide +kernel
theorem dX11_init_45 : decode cX11_init 45 = .ok (.dup, 1) := by decide +kernel
theorem dX11_init_46 : decode cX11_init 46 = .ok (.invokespecial 33, 3) := by decide +kernel
theorem dX11_init_49 : decode cX11_init 49 = .ok (.putfield 34, 3) := by decide +kernel
theorem dX11_init_52 : decode cX11_init 52 = .ok (.aload_n 0, 1) := by decide +kernel
theorem dX11_init_53 : decode cX11_init 53 = .ok (.new 38, 3) := by decide +kernel
theorem dX11_init_56 : decode cX11_init 56 = .ok (.dup, 1) := by decide +kernel
theorem dX11_init_57 : decode cX11_init 57 = .ok (.invokespecial 40, 3) := by decide +kernel
theorem dX11_init_60 : decode cX11_init 60 = .ok (.putfield 41, 3) := by decide +kernel
theorem dX11_init_63 : decode cX11_init 63 = .ok (.aload_n 0, 1) := by decide +kernel
theorem dX11_init_64 : decode cX11_init 64 = .ok (.new 45, 3) := by decide +kernel
theorem dX11_init_67 : decode cX11_init 67 = .ok (.dup, 1) := by decide +kernel
theorem dX11_init_68 : decode cX11_init 68 = .ok (.invokespecial 47, 3) := by decide +kernel
theorem dX11_init_71 : decode cX11_init 71 = .ok (.putfield 48, 3) := by decide +kernel
theorem dX11_init_74 : decode cX11_init 74 = .ok (.aload_n 0, 1) := by decide +kernel
theorem dX11_init_75 : decode cX11_init 75 = .ok (.new 52, 3) := by decide +kernel
theorem dX11_init_78 : decode cX11_init 78 = .ok (.dup, 1) := by decide +kernel
theorem dX11_init_79 : decode cX11_init 79 = .ok (.aload_n 0, 1) := by decide +kernel
theorem dX11_init_80 : decode cX11_init 80 = .ok (.getfield 41, 3) := by decide +kernel
theorem dX11_init_83 : decode cX11_init 83 = .ok (.aload_n 0, 1) := by decide +kernel
theorem dX11_init_84 : decode cX11_init 84 = .ok (.getfield 48, 3) := by decide +kernel
theorem dX11_init_87 : decode cX11_init 87 = .ok (.invokespecial 54, 3) := by decide +kernel
theorem dX11_init_90 : decode cX11_init 90 = .ok (.putfield 57, 3) := by decide +kernel
theorem dX11_init_93 : decode cX11_init 93 = .ok (.aload_n 0, 1) := by decide +kernel
theorem dX11_init_94 : decode cX11_init 94 = .ok (.new 61, 3) := by decide +kernel
theorem dX11_init_97 : decode cX11_init 97 = .ok (.dup, 1) := by decide +kernel
theorem dX11_init_98 : decode cX11_init 98 = .ok (.invokespecial 63, 3) := by decide +kernel
theorem dX11_init_101 : decode cX11_init 101 = .ok (.putfield 64, 3) := by decide +kernel
theorem dX11_init_104 : decode cX11_init 104 = .ok (.aload_n 0, 1) := by decide +kernel
theorem dX11_init_105 : decode cX11_init 105 = .ok (.new 68, 3) := by decide +kernel
theorem dX11_init_108 : decode cX11_init 108 = .ok (.dup, 1) := by decide +kernel
theorem dX11_init_109 : decode cX11_init 109 = .ok (.invokespecial 70, 3) := by decide +kernel
theorem dX11_init_112 : decode cX11_init 112 = .ok (.putfield 71, 3) := by decide +kernel
theorem dX11_init_115 : decode cX11_init 115 = .ok (.aload_n 0, 1) := by decide +kernel
theorem dX11_init_116 : decode cX11_init 116 = .ok (.new 75, 3) := by decide +kernel
theorem dX11_init_119 : decode cX11_init 119 = .ok (.dup, 1) := by decide +kernel
theorem dX11_init_120 : decode cX11_init 120 = .ok (.invokespecial 77, 3) := by decide +kernel
theorem dX11_init_123 : decode cX11_init 123 = .ok (.putfield 78, 3) := by decide +kernel
theorem dX11_init_126 : decode cX11_init 126 = .ok (.aload_n 0, 1) := by decide +kernel
theorem dX11_init_127 : decode cX11_init 127 = .ok (.new 82, 3) := by decide +kernel
theorem dX11_init_130 : decode cX11_init 130 = .ok (.dup, 1) := by decide +kernel
theorem dX11_init_131 : decode cX11_init 131 = .ok (.aload_n 0, 1) := by decide +kernel
theorem dX11_init_132 : decode cX11_init 132 = .ok (.getfield 41, 3) := by decide +kernel
theorem dX11_init_135 : decode cX11_init 135 = .ok (.invokespecial 84, 3) := by decide +kernel
theorem dX11_init_138 : decode cX11_init 138 = .ok (.putfield 87, 3) := by decide +kernel
theorem dX11_init_141 : decode cX11_init 141 = .ok (.aload_n 0, 1) := by decide +kernel
theorem dX11_init_142 : decode cX11_init 142 = .ok (.iconst 0, 1) := by decide +kernel
theorem dX11_init_143 : decode cX11_init 143 = .ok (.putfield 91, 3) := by decide +kernel
theorem dX11_init_146 : decode cX11_init 146 = .ok (.aload_n 0, 1) := by decide +kernel
theorem dX11_init_147 : decode cX11_init 147 = .ok (.new 45, 3) := by decide +kernel
theorem dX11_init_150 : decode cX11_init 150 = .ok (.dup, 1) := by decide +kernel
theorem dX11_init_151 : decode cX11_init 151 = .ok (.invokespecial 47, 3) := by decide +kernel
theorem dX11_init_154 : decode cX11_init 154 = .ok (.putfield 95, 3) := by decide +kernel
theorem dX11_init_157 : decode cX11_init 157 = .ok (.aload_n 0, 1) := by decide +kernel
theorem dX11_init_158 : decode cX11_init 158 = .ok (.new 61, 3) := by decide +kernel
theorem dX11_init_161 : decode cX11_init 161 = .ok (.dup, 1) := by decide +kernel
theorem dX11_init_162 : decode cX11_init 162 = .ok (.invokespecial 63, 3) := by decide +kernel
theorem dX11_init_165 : decode cX11_init 165 = .ok (.putfield 98, 3) := by decide +kernel
theorem dX11_init_168 : decode cX11_init 168 = .ok (.aload_n 0, 1) := by decide +kernel
theorem dX11_init_169 : decode cX11_init 169 = .ok (.new 68, 3) := by decide +kernel
theorem dX11_init_172 : decode cX11_init 172 = .ok (.dup, 1) := by decide +kernel
theorem dX11_init_173 : decode cX11_init 173 = .ok (.invokespecial 70, 3) := by decide +kernel
theorem dX11_init_176 : decode cX11_init 176 = .ok (.putfield 101, 3) := by decide +kernel
theorem dX11_init_179 : decode cX11_init 179 = .ok (.return_, 1) := by decide +kernel
theorem dX11_feed_0 : decode cX11_feed 0 = .ok (.aload_n 0, 1) := by decide +kernel
theorem dX11_feed_1 : decode cX11_feed 1 = .ok (.getfield 13, 3) := by decide +kernel
theorem dX11_feed_4 : decode cX11_feed 4 = .ok (.sipush 680, 3) := by decide +kernel
theorem dX11_feed_7 : decode cX11_feed 7 = .ok (.if_icmp .le 5, 3) := by decide +kernel
theorem dX11_feed_10 : decode cX11_feed 10 = .ok (.iconst (-1), 1) := by decide +kernel
theorem dX11_feed_11 : decode cX11_feed 11 = .ok (.ireturn, 1) := by decide +kernel
theorem dX11_feed_12 : decode cX11_feed 12 = .ok (.aload_n 0, 1) := by decide +kernel
theorem dX11_feed_13 : decode cX11_feed 13 = .ok (.iload_n 1, 1) := by decide +kernel
theorem dX11_feed_14 : decode cX11_feed 14 = .ok (.invokevirtual 104, 3) := by decide +kernel
theorem dX11_feed_17 : decode cX11_feed 17 = .ok (.aload_n 0, 1) := by decide +kernel
theorem dX11_feed_18 : decode cX11_feed 18 = .ok (.iload_n 2, 1) := by decide +kernel
theorem dX11_feed_19 : decode cX11_feed 19 = .ok (.invokevirtual 104, 3) := by decide +kernel
theorem dX11_feed_22 : decode cX11_feed 22 = .ok (.aload_n 0, 1) := by decide +kernel
theorem dX11_feed_23 : decode cX11_feed 23 = .ok (.iload_n 3, 1) := by decide +kernel
theorem dX11_feed_24 : decode cX11_feed 24 = .ok (.invokevirtual 104, 3) := by decide +kernel
theorem dX11_feed_27 : decode cX11_feed 27 = .ok (.aload_n 0, 1) := by decide +kernel
theorem dX11_feed_28 : decode cX11_feed 28 = .ok (.iload 4, 2) := by decide +kernel
theorem dX11_feed_30 : decode cX11_feed 30 = .ok (.invokevirtual 104, 3) := by decide +kernel
theorem dX11_feed_33 : decode cX11_feed 33 = .ok (.aload_n 0, 1) := by decide +kernel
theorem dX11_feed_34 : decode cX11_feed 34 = .ok (.iload 5, 2) := by decide +kernel
theorem dX11_feed_36 : decode cX11_feed 36 = .ok (.invokevirtual 104, 3) := by decide +kernel
theorem dX11_feed_39 : decode cX11_feed 39 = .ok (.aload_n 0, 1) := by decide +kernel
theorem dX11_feed_40 : decode cX11_feed 40 = .ok (.getfield 13, 3) := by decide +kernel
theorem dX11_feed_43 : decode cX11_feed 43 = .ok (.ireturn, 1) := by decide +kernel
theorem dX11_putNumber_0 : decode cX11_putNumber 0 = .ok (.bipush 24, 2) := by decide +kernel
theorem dX11_putNumber_2 : decode cX11_putNumber 2 = .ok (.istore_n 2, 1) := by decide +kernel
theorem dX11_putNumber_3 : decode cX11_putNumber 3 = .ok (.iload_n 2, 1) := by decide +kernel
theorem dX11_putNumber_4 : decode cX11_putNumber 4 = .ok (.ifCond .lt 42, 3) := by decide +kernel
theorem dX11_putNumber_7 : decode cX11_putNumber 7 = .ok (.aload_n 0, 1) := by decide +kernel
theorem dX11_putNumber_8 : decode cX11_putNumber 8 = .ok (.getfield 13, 3) := by decide +kernel
theorem dX11_putNumber_11 : decode cX11_putNumber 11 = .ok (.sipush 700, 3) := by decide +kernel
theorem dX11_putNumber_14 : decode cX11_putNumber 14 = .ok (.if_icmp .ge 32, 3) := by decide +kernel
theorem dX11_putNumber_17 : decode cX11_putNumber 17 = .ok (.aload_n 0, 1) := by decide +kernel
theorem dX11_putNumber_18 : decode cX11_putNumber 18 = .ok (.getfield 9, 3) := by decide +kernel
theorem dX11_putNumber_21 : decode cX11_putNumber 21 = .ok (.aload_n 0, 1) := by decide +kernel
theorem dX11_putNumber_22 : decode cX11_putNumber 22 = .ok (.getfield 13, 3) := by decide +kernel
theorem dX11_putNumber_25 : decode cX11_putNumber 25 = .ok (.iload_n 1, 1) := by decide +kernel
theorem dX11_putNumber_26 : decode cX11_putNumber 26 = .ok (.iload_n 2, 1) := by decide +kernel
theorem dX11_putNumber_27 : decode cX11_putNumber 27 = .ok (.ishr, 1) := by decide +kernel
theorem dX11_putNumber_28 : decode cX11_putNumber 28 = .ok (.i2b, 1) := by decide +kernel
theorem dX11_putNumber_29 : decode cX11_putNumber 29 = .ok (.bastore, 1) := by decide +kernel
theorem dX11_putNumber_30 : decode cX11_putNumber 30 = .ok (.aload_n 0, 1) := by decide +kernel
theorem dX11_putNumber_31 : decode cX11_putNumber 31 = .ok (.dup, 1) := by decide +kernel
theorem dX11_putNumber_32 : decode cX11_putNumber 32 = .ok (.getfield 13, 3) := by decide +kernel
theorem dX11_putNumber_35 : decode cX11_putNumber 35 = .ok (.iconst 1, 1) := by decide +kernel
theorem dX11_putNumber_36 : decode cX11_putNumber 36 = .ok (.iadd, 1) := by decide +kernel
theorem dX11_putNumber_37 : decode cX11_putNumber 37 = .ok (.putfield 13, 3) := by decide +kernel
theorem dX11_putNumber_40 : decode cX11_putNumber 40 = .ok (.iinc 2 (-8), 3) := by decide +kernel
theorem dX11_putNumber_43 : decode cX11_putNumber 43 = .ok (.goto (-40), 3) := by decide +kernel
theorem dX11_putNumber_46 : decode cX11_putNumber 46 = .ok (.return_, 1) := by decide +kernel
theorem dX11_village_0 : decode cX11_village 0 = .ok (.iload_n 1, 1) := by decide +kernel
theorem dX11_village_1 : decode cX11_village 1 = .ok (.ifCond .lt 11, 3) := by decide +kernel
theorem dX11_village_4 : decode cX11_village 4 = .ok (.iload_n 1, 1) := by decide +kernel
theorem dX11_village_5 : decode cX11_village 5 = .ok (.aload_n 0, 1) := by decide +kernel
theorem dX11_village_6 : decode cX11_village 6 = .ok (.getfield 13, 3) := by decide +kernel
theorem dX11_village_9 : decode cX11_village 9 = .ok (.if_icmp .le 13, 3) := by decide +kernel
theorem dX11_village_12 : decode cX11_village 12 = .ok (.new 108, 3) := by decide +kernel
theorem dX11_village_15 : decode cX11_village 15 = .ok (.dup, 1) := by decide +kernel
theorem dX11_village_16 : decode cX11_village 16 = .ok (.ldc 110, 2) := by decide +kernel
theorem dX11_village_18 : decode cX11_village 18 = .ok (.invokespecial 112, 3) := by decide +kernel
theorem dX11_village_21 : decode cX11_village 21 = .ok (.athrow, 1) := by decide +kernel
theorem dX11_village_22 : decode cX11_village 22 = .ok (.aload_n 0, 1) := by decide +kernel
theorem dX11_village_23 : decode cX11_village 23 = .ok (.getfield 27, 3) := by decide +kernel
theorem dX11_village_26 : decode cX11_village 26 = .ok (.aload_n 0, 1) := by decide +kernel
theorem dX11_village_27 : decode cX11_village 27 = .ok (.getfield 9, 3) := by decide +kernel
theorem dX11_village_30 : decode cX11_village 30 = .ok (.iload_n 1, 1) := by decide +kernel
theorem dX11_village_31 : decode cX11_village 31 = .ok (.invokevirtual 115, 3) := by decide +kernel
theorem dX11_village_34 : decode cX11_village 34 = .ok (.istore_n 2, 1) := by decide +kernel
theorem dX11_village_35 : decode cX11_village 35 = .ok (.aload_n 0, 1) := by decide +kernel
theorem dX11_village_36 : decode cX11_village 36 = .ok (.iconst 0, 1) := by decide +kernel
theorem dX11_village_37 : decode cX11_village 37 = .ok (.putfield 13, 3) := by decide +kernel
theorem dX11_village_40 : decode cX11_village 40 = .ok (.iload_n 2, 1) := by decide +kernel
theorem dX11_village_41 : decode cX11_village 41 = .ok (.ifCond .eq 26, 3) := by decide +kernel
theorem dX11_village_44 : decode cX11_village 44 = .ok (.aload_n 0, 1) := by decide +kernel
theorem dX11_village_45 : decode cX11_village 45 = .ok (.aload_n 0, 1) := by decide +kernel
theorem dX11_village_46 : decode cX11_village 46 = .ok (.getfield 27, 3) := by decide +kernel
theorem dX11_village_49 : decode cX11_village 49 = .ok (.invokevirtual 119, 3) := by decide +kernel
theorem dX11_village_52 : decode cX11_village 52 = .ok (.putfield 17, 3) := by decide +kernel
theorem dX11_village_55 : decode cX11_village 55 = .ok (.aload_n 0, 1) := by decide +kernel
theorem dX11_village_56 : decode cX11_village 56 = .ok (.getfield 20, 3) := by decide +kernel
theorem dX11_village_59 : decode cX11_village 59 = .ok (.iconst 0, 1) := by decide +kernel
theorem dX11_village_60 : decode cX11_village 60 = .ok (.dup2, 1) := by decide +kernel
theorem dX11_village_61 : decode cX11_village 61 = .ok (.iaload, 1) := by decide +kernel
theorem dX11_village_62 : decode cX11_village 62 = .ok (.iconst 1, 1) := by decide +kernel
theorem dX11_village_63 : decode cX11_village 63 = .ok (.iadd, 1) := by decide +kernel
theorem dX11_village_64 : decode cX11_village 64 = .ok (.iastore, 1) := by decide +kernel
theorem dX11_village_65 : decode cX11_village 65 = .ok (.iload_n 2, 1) := by decide +kernel
theorem dX11_village_66 : decode cX11_village 66 = .ok (.ireturn, 1) := by decide +kernel
theorem dX11_village_67 : decode cX11_village 67 = .ok (.aload_n 0, 1) := by decide +kernel
theorem dX11_village_68 : decode cX11_village 68 = .ok (.iconst (-1), 1) := by decide +kernel
theorem dX11_village_69 : decode cX11_village 69 = .ok (.putfield 17, 3) := by decide +kernel
theorem dX11_village_72 : decode cX11_village 72 = .ok (.aload_n 0, 1) := by decide +kernel
theorem dX11_village_73 : decode cX11_village 73 = .ok (.getfield 48, 3) := by decide +kernel
theorem dX11_village_76 : decode cX11_village 76 = .ok (.aload_n 0, 1) := by decide +kernel
theorem dX11_village_77 : decode cX11_village 77 = .ok (.getfield 27, 3) := by decide +kernel
theorem dX11_village_80 : decode cX11_village 80 = .ok (.getfield 123, 3) := by decide +kernel
theorem dX11_village_83 : decode cX11_village 83 = .ok (.invokevirtual 126, 3) := by decide +kernel
theorem dX11_village_86 : decode cX11_village 86 = .ok (.aload_n 0, 1) := by decide +kernel
theorem dX11_village_87 : decode cX11_village 87 = .ok (.getfield 34, 3) := by decide +kernel
theorem dX11_village_90 : decode cX11_village 90 = .ok (.aload_n 0, 1) := by decide +kernel
theorem dX11_village_91 : decode cX11_village 91 = .ok (.getfield 27, 3) := by decide +kernel
theorem dX11_village_94 : decode cX11_village 94 = .ok (.getfield 130, 3) := by decide +kernel
theorem dX11_village_97 : decode cX11_village 97 = .ok (.invokevirtual 131, 3) := by decide +kernel
theorem dX11_village_100 : decode cX11_village 100 = .ok (.aload_n 0, 1) := by decide +kernel
theorem dX11_village_101 : decode cX11_village 101 = .ok (.getfield 41, 3) := by decide +kernel
theorem dX11_village_104 : decode cX11_village 104 = .ok (.getfield 134, 3) := by decide +kernel
theorem dX11_village_107 : decode cX11_village 107 = .ok (.aload_n 0, 1) := by decide +kernel
theorem dX11_village_108 : decode cX11_village 108 = .ok (.getfield 27, 3) := by decide +kernel
theorem dX11_village_111 : decode cX11_village 111 = .ok (.getfield 138, 3) := by decide +kernel
theorem dX11_village_114 : decode cX11_village 114 = .ok (.invokevirtual 139, 3) := by decide +kernel
theorem dX11_village_117 : decode cX11_village 117 = .ok (.aload_n 0, 1) := by decide +kernel
theorem dX11_village_118 : decode cX11_village 118 = .ok (.getfield 41, 3) := by decide +kernel
theorem dX11_village_121 : decode cX11_village 121 = .ok (.getfield 144, 3) := by decide +kernel
theorem dX11_village_124 : decode cX11_village 124 = .ok (.aload_n 0, 1) := by decide +kernel
theorem dX11_village_125 : decode cX11_village 125 = .ok (.getfield 27, 3) := by decide +kernel
theorem dX11_village_128 : decode cX11_village 128 = .ok (.getfield 147, 3) := by decide +kernel
theorem dX11_village_131 : decode cX11_village 131 = .ok (.invokevirtual 139, 3) := by decide +kernel
theorem dX11_village_134 : decode cX11_village 134 = .ok (.aload_n 0, 1) := by decide +kernel
theorem dX11_village_135 : decode cX11_village 135 = .ok (.getfield 57, 3) := by decide +kernel
theorem dX11_village_138 : decode cX11_village 138 = .ok (.invokevirtual 148, 3) := by decide +kernel
theorem dX11_village_141 : decode cX11_village 141 = .ok (.aload_n 0, 1) := by decide +kernel
theorem dX11_village_142 : decode cX11_village 142 = .ok (.getfield 64, 3) := by decide +kernel
theorem dX11_village_145 : decode cX11_village 145 = .ok (.iconst 0, 1) := by decide +kernel
theorem dX11_village_146 : decode cX11_village 146 = .ok (.putfield 151, 3) := by decide +kernel
theorem dX11_village_149 : decode cX11_village 149 = .ok (.aload_n 0, 1) := by decide +kernel
theorem dX11_village_150 : decode cX11_village 150 = .ok (.getfield 71, 3) := by decide +kernel
theorem dX11_village_153 : decode cX11_village 153 = .ok (.iconst 0, 1) := by decide +kernel
theorem dX11_village_154 : decode cX11_village 154 = .ok (.putfield 154, 3) := by decide +kernel
theorem dX11_village_157 : decode cX11_village 157 = .ok (.aload_n 0, 1) := by decide +kernel
theorem dX11_village_158 : decode cX11_village 158 = .ok (.iconst 0, 1) := by decide +kernel
theorem dX11_village_159 : decode cX11_village 159 = .ok (.putfield 91, 3) := by decide +kernel
theorem dX11_village_162 : decode cX11_village 162 = .ok (.iconst 0, 1) := by decide +kernel
theorem dX11_village_163 : decode cX11_village 163 = .ok (.ireturn, 1) := by decide +kernel
theorem dX11_fault_0 : decode cX11_fault 0 = .ok (.aload_n 0, 1) := by decide +kernel
theorem dX11_fault_1 : decode cX11_fault 1 = .ok (.getfield 17, 3) := by decide +kernel
theorem dX11_fault_4 : decode cX11_fault 4 = .ok (.ireturn, 1) := by decide +kernel
theorem dX11_count_0 : decode cX11_count 0 = .ok (.iload_n 1, 1) := by decide +kernel
theorem dX11_count_1 : decode cX11_count 1 = .ok (.tableswitch 240 0 16 #[83, 91, 99, 107, 115, 123, 139, 147, 163, 171, 183, 198, 206, 214, 219, 226, 233], 83) := by decide +kernel
theorem dX11_count_84 : decode cX11_count 84 = .ok (.aload_n 0, 1) := by decide +kernel
theorem dX11_count_85 : decode cX11_count 85 = .ok (.getfield 48, 3) := by decide +kernel
theorem dX11_count_88 : decode cX11_count 88 = .ok (.getfield 155, 3) := by decide +kernel
theorem dX11_count_91 : decode cX11_count 91 = .ok (.ireturn, 1) := by decide +kernel
theorem dX11_count_92 : decode cX11_count 92 = .ok (.aload_n 0, 1) := by decide +kernel
theorem dX11_count_93 : decode cX11_count 93 = .ok (.getfield 48, 3) := by decide +kernel
theorem dX11_count_96 : decode cX11_count 96 = .ok (.getfield 158, 3) := by decide +kernel
theorem dX11_count_99 : decode cX11_count 99 = .ok (.ireturn, 1) := by decide +kernel
theorem dX11_count_100 : decode cX11_count 100 = .ok (.aload_n 0, 1) := by decide +kernel
theorem dX11_count_101 : decode cX11_count 101 = .ok (.getfield 48, 3) := by decide +kernel
theorem dX11_count_104 : decode cX11_count 104 = .ok (.getfield 161, 3) := by decide +kernel
theorem dX11_count_107 : decode cX11_count 107 = .ok (.ireturn, 1) := by decide +kernel
theorem dX11_count_108 : decode cX11_count 108 = .ok (.aload_n 0, 1) := by decide +kernel
theorem dX11_count_109 : decode cX11_count 109 = .ok (.getfield 48, 3) := by decide +kernel
theorem dX11_count_112 : decode cX11_count 112 = .ok (.invokevirtual 164, 3) := by decide +kernel
theorem dX11_count_115 : decode cX11_count 115 = .ok (.ireturn, 1) := by decide +kernel
theorem dX11_count_116 : decode cX11_count 116 = .ok (.aload_n 0, 1) := by decide +kernel
theorem dX11_count_117 : decode cX11_count 117 = .ok (.getfield 48, 3) := by decide +kernel
theorem dX11_count_120 : decode cX11_count 120 = .ok (.invokevirtual 167, 3) := by decide +kernel
theorem dX11_count_123 : decode cX11_count 123 = .ok (.ireturn, 1) := by decide +kernel
theorem dX11_count_124 : decode cX11_count 124 = .ok (.aload_n 0, 1) := by decide +kernel
theorem dX11_count_125 : decode cX11_count 125 = .ok (.getfield 48, 3) := by decide +kernel
theorem dX11_count_128 : decode cX11_count 128 = .ok (.invokevirtual 170, 3) := by decide +kernel
theorem dX11_count_131 : decode cX11_count 131 = .ok (.ifCond .eq 7, 3) := by decide +kernel
theorem dX11_count_134 : decode cX11_count 134 = .ok (.iconst 1, 1) := by decide +kernel
theorem dX11_count_135 : decode cX11_count 135 = .ok (.goto 4, 3) := by decide +kernel
theorem dX11_count_138 : decode cX11_count 138 = .ok (.iconst 0, 1) := by decide +kernel
theorem dX11_count_139 : decode cX11_count 139 = .ok (.ireturn, 1) := by decide +kernel
theorem dX11_count_140 : decode cX11_count 140 = .ok (.aload_n 0, 1) := by decide +kernel
theorem dX11_count_141 : decode cX11_count 141 = .ok (.getfield 48, 3) := by decide +kernel
theorem dX11_count_144 : decode cX11_count 144 = .ok (.invokevirtual 174, 3) := by decide +kernel
theorem dX11_count_147 : decode cX11_count 147 = .ok (.ireturn, 1) := by decide +kernel
theorem dX11_count_148 : decode cX11_count 148 = .ok (.aload_n 0, 1) := by decide +kernel
theorem dX11_count_149 : decode cX11_count 149 = .ok (.getfield 48, 3) := by decide +kernel
theorem dX11_count_152 : decode cX11_count 152 = .ok (.invokevirtual 174, 3) := by decide +kernel
theorem dX11_count_155 : decode cX11_count 155 = .ok (.ifCond .ne 7, 3) := by decide +kernel
theorem dX11_count_158 : decode cX11_count 158 = .ok (.iconst 1, 1) := by decide +kernel
theorem dX11_count_159 : decode cX11_count 159 = .ok (.goto 4, 3) := by decide +kernel
theorem dX11_count_162 : decode cX11_count 162 = .ok (.iconst 0, 1) := by decide +kernel
theorem dX11_count_163 : decode cX11_count 163 = .ok (.ireturn, 1) := by decide +kernel
theorem dX11_count_164 : decode cX11_count 164 = .ok (.aload_n 0, 1) := by decide +kernel
theorem dX11_count_165 : decode cX11_count 165 = .ok (.getfield 34, 3) := by decide +kernel
theorem dX11_count_168 : decode cX11_count 168 = .ok (.getfield 177, 3) := by decide +kernel
theorem dX11_count_171 : decode cX11_count 171 = .ok (.ireturn, 1) := by decide +kernel
theorem dX11_count_172 : decode cX11_count 172 = .ok (.aload_n 0, 1) := by decide +kernel
theorem dX11_count_173 : decode cX11_count 173 = .ok (.getfield 34, 3) := by decide +kernel
theorem dX11_count_176 : decode cX11_count 176 = .ok (.aload_n 0, 1) := by decide +kernel
theorem dX11_count_177 : decode cX11_count 177 = .ok (.getfield 48, 3) := by decide +kernel
theorem dX11_count_180 : decode cX11_count 180 = .ok (.invokevirtual 180, 3) := by decide +kernel
theorem dX11_count_183 : decode cX11_count 183 = .ok (.ireturn, 1) := by decide +kernel
theorem dX11_count_184 : decode cX11_count 184 = .ok (.aload_n 0, 1) := by decide +kernel
theorem dX11_count_185 : decode cX11_count 185 = .ok (.getfield 34, 3) := by decide +kernel
theorem dX11_count_188 : decode cX11_count 188 = .ok (.aload_n 0, 1) := by decide +kernel
theorem dX11_count_189 : decode cX11_count 189 = .ok (.getfield 48, 3) := by decide +kernel
theorem dX11_count_192 : decode cX11_count 192 = .ok (.getfield 155, 3) := by decide +kernel
theorem dX11_count_195 : decode cX11_count 195 = .ok (.invokevirtual 184, 3) := by decide +kernel
theorem dX11_count_198 : decode cX11_count 198 = .ok (.ireturn, 1) := by decide +kernel
theorem dX11_count_199 : decode cX11_count 199 = .ok (.aload_n 0, 1) := by decide +kernel
theorem dX11_count_200 : decode cX11_count 200 = .ok (.getfield 64, 3) := by decide +kernel
theorem dX11_count_203 : decode cX11_count 203 = .ok (.getfield 151, 3) := by decide +kernel
theorem dX11_count_206 : decode cX11_count 206 = .ok (.ireturn, 1) := by decide +kernel
theorem dX11_count_207 : decode cX11_count 207 = .ok (.aload_n 0, 1) := by decide +kernel
theorem dX11_count_208 : decode cX11_count 208 = .ok (.getfield 71, 3) := by decide +kernel
theorem dX11_count_211 : decode cX11_count 211 = .ok (.getfield 154, 3) := by decide +kernel
theorem dX11_count_214 : decode cX11_count 214 = .ok (.ireturn, 1) := by decide +kernel
theorem dX11_count_215 : decode cX11_count 215 = .ok (.aload_n 0, 1) := by decide +kernel
theorem dX11_count_216 : decode cX11_count 216 = .ok (.getfield 13, 3) := by decide +kernel
theorem dX11_count_219 : decode cX11_count 219 = .ok (.ireturn, 1) := by decide +kernel
theorem dX11_count_220 : decode cX11_count 220 = .ok (.aload_n 0, 1) := by decide +kernel
theorem dX11_count_221 : decode cX11_count 221 = .ok (.getfield 20, 3) := by decide +kernel
theorem dX11_count_224 : decode cX11_count 224 = .ok (.iconst 0, 1) := by decide +kernel
theorem dX11_count_225 : decode cX11_count 225 = .ok (.iaload, 1) := by decide +kernel
theorem dX11_count_226 : decode cX11_count 226 = .ok (.ireturn, 1) := by decide +kernel
theorem dX11_count_227 : decode cX11_count 227 = .ok (.aload_n 0, 1) := by decide +kernel
theorem dX11_count_228 : decode cX11_count 228 = .ok (.getfield 20, 3) := by decide +kernel
theorem dX11_count_231 : decode cX11_count 231 = .ok (.iconst 1, 1) := by decide +kernel
theorem dX11_count_232 : decode cX11_count 232 = .ok (.iaload, 1) := by decide +kernel
theorem dX11_count_233 : decode cX11_count 233 = .ok (.ireturn, 1) := by decide +kernel
theorem dX11_count_234 : decode cX11_count 234 = .ok (.aload_n 0, 1) := by decide +kernel
theorem dX11_count_235 : decode cX11_count 235 = .ok (.getfield 20, 3) := by decide +kernel
theorem dX11_count_238 : decode cX11_count 238 = .ok (.iconst 2, 1) := by decide +kernel
theorem dX11_count_239 : decode cX11_count 239 = .ok (.iaload, 1) := by decide +kernel
theorem dX11_count_240 : decode cX11_count 240 = .ok (.ireturn, 1) := by decide +kernel
theorem dX11_count_241 : decode cX11_count 241 = .ok (.new 188, 3) := by decide +kernel
theorem dX11_count_244 : decode cX11_count 244 = .ok (.dup, 1) := by decide +kernel
theorem dX11_count_245 : decode cX11_count 245 = .ok (.ldc 190, 2) := by decide +kernel
theorem dX11_count_247 : decode cX11_count 247 = .ok (.invokespecial 192, 3) := by decide +kernel
theorem dX11_count_250 : decode cX11_count 250 = .ok (.athrow, 1) := by decide +kernel
theorem dX11_person_0 : decode cX11_person 0 = .ok (.aload_n 0, 1) := by decide +kernel
theorem dX11_person_1 : decode cX11_person 1 = .ok (.iload_n 1, 1) := by decide +kernel
theorem dX11_person_2 : decode cX11_person 2 = .ok (.invokevirtual 193, 3) := by decide +kernel
theorem dX11_person_5 : decode cX11_person 5 = .ok (.iload_n 2, 1) := by decide +kernel
theorem dX11_person_6 : decode cX11_person 6 = .ok (.tableswitch 160 0 8 #[50, 60, 70, 80, 90, 99, 108, 117, 147], 50) := by decide +kernel
theorem dX11_person_56 : decode cX11_person 56 = .ok (.aload_n 0, 1) := by decide +kernel
theorem dX11_person_57 : decode cX11_person 57 = .ok (.getfield 48, 3) := by decide +kernel
theorem dX11_person_60 : decode cX11_person 60 = .ok (.getfield 196, 3) := by decide +kernel
theorem dX11_person_63 : decode cX11_person 63 = .ok (.iload_n 1, 1) := by decide +kernel
theorem dX11_person_64 : decode cX11_person 64 = .ok (.iaload, 1) := by decide +kernel
theorem dX11_person_65 : decode cX11_person 65 = .ok (.ireturn, 1) := by decide +kernel
theorem dX11_person_66 : decode cX11_person 66 = .ok (.aload_n 0, 1) := by decide +kernel
theorem dX11_person_67 : decode cX11_person 67 = .ok (.getfield 48, 3) := by decide +kernel
theorem dX11_person_70 : decode cX11_person 70 = .ok (.getfield 199, 3) := by decide +kernel
theorem dX11_person_73 : decode cX11_person 73 = .ok (.iload_n 1, 1) := by decide +kernel
theorem dX11_person_74 : decode cX11_person 74 = .ok (.iaload, 1) := by decide +kernel
theorem dX11_person_75 : decode cX11_person 75 = .ok (.ireturn, 1) := by decide +kernel
theorem dX11_person_76 : decode cX11_person 76 = .ok (.aload_n 0, 1) := by decide +kernel
theorem dX11_person_77 : decode cX11_person 77 = .ok (.getfield 48, 3) := by decide +kernel
theorem dX11_person_80 : decode cX11_person 80 = .ok (.getfield 201, 3) := by decide +kernel
theorem dX11_person_83 : decode cX11_person 83 = .ok (.iload_n 1, 1) := by decide +kernel
theorem dX11_person_84 : decode cX11_person 84 = .ok (.iaload, 1) := by decide +kernel
theorem dX11_person_85 : decode cX11_person 85 = .ok (.ireturn, 1) := by decide +kernel
theorem dX11_person_86 : decode cX11_person 86 = .ok (.aload_n 0, 1) := by decide +kernel
theorem dX11_person_87 : decode cX11_person 87 = .ok (.getfield 48, 3) := by decide +kernel
theorem dX11_person_90 : decode cX11_person 90 = .ok (.getfield 204, 3) := by decide +kernel
theorem dX11_person_93 : decode cX11_person 93 = .ok (.iload_n 1, 1) := by decide +kernel
theorem dX11_person_94 : decode cX11_person 94 = .ok (.iaload, 1) := by decide +kernel
theorem dX11_person_95 : decode cX11_person 95 = .ok (.ireturn, 1) := by decide +kernel
theorem dX11_person_96 : decode cX11_person 96 = .ok (.aload_n 0, 1) := by decide +kernel
theorem dX11_person_97 : decode cX11_person 97 = .ok (.getfield 48, 3) := by decide +kernel
theorem dX11_person_100 : decode cX11_person 100 = .ok (.iload_n 1, 1) := by decide +kernel
theorem dX11_person_101 : decode cX11_person 101 = .ok (.invokevirtual 207, 3) := by decide +kernel
theorem dX11_person_104 : decode cX11_person 104 = .ok (.ireturn, 1) := by decide +kernel
theorem dX11_person_105 : decode cX11_person 105 = .ok (.aload_n 0, 1) := by decide +kernel
theorem dX11_person_106 : decode cX11_person 106 = .ok (.getfield 48, 3) := by decide +kernel
theorem dX11_person_109 : decode cX11_person 109 = .ok (.iload_n 1, 1) := by decide +kernel
theorem dX11_person_110 : decode cX11_person 110 = .ok (.invokevirtual 210, 3) := by decide +kernel
theorem dX11_person_113 : decode cX11_person 113 = .ok (.ireturn, 1) := by decide +kernel
theorem dX11_person_114 : decode cX11_person 114 = .ok (.aload_n 0, 1) := by decide +kernel
theorem dX11_person_115 : decode cX11_person 115 = .ok (.getfield 34, 3) := by decide +kernel
theorem dX11_person_118 : decode cX11_person 118 = .ok (.iload_n 1, 1) := by decide +kernel
theorem dX11_person_119 : decode cX11_person 119 = .ok (.invokevirtual 213, 3) := by decide +kernel
theorem dX11_person_122 : decode cX11_person 122 = .ok (.ireturn, 1) := by decide +kernel
theorem dX11_person_123 : decode cX11_person 123 = .ok (.aload_n 0, 1) := by decide +kernel
theorem dX11_person_124 : decode cX11_person 124 = .ok (.getfield 41, 3) := by decide +kernel
theorem dX11_person_127 : decode cX11_person 127 = .ok (.aload_n 0, 1) := by decide +kernel
theorem dX11_person_128 : decode cX11_person 128 = .ok (.getfield 48, 3) := by decide +kernel
theorem dX11_person_131 : decode cX11_person 131 = .ok (.aload_n 0, 1) := by decide +kernel
theorem dX11_person_132 : decode cX11_person 132 = .ok (.getfield 48, 3) := by decide +kernel
theorem dX11_person_135 : decode cX11_person 135 = .ok (.getfield 196, 3) := by decide +kernel
theorem dX11_person_138 : decode cX11_person 138 = .ok (.iload_n 1, 1) := by decide +kernel
theorem dX11_person_139 : decode cX11_person 139 = .ok (.iaload, 1) := by decide +kernel
theorem dX11_person_140 : decode cX11_person 140 = .ok (.invokevirtual 216, 3) := by decide +kernel
theorem dX11_person_143 : decode cX11_person 143 = .ok (.iload_n 1, 1) := by decide +kernel
theorem dX11_person_144 : decode cX11_person 144 = .ok (.if_icmp .ne 7, 3) := by decide +kernel
theorem dX11_person_147 : decode cX11_person 147 = .ok (.iconst 1, 1) := by decide +kernel
theorem dX11_person_148 : decode cX11_person 148 = .ok (.goto 4, 3) := by decide +kernel
theorem dX11_person_151 : decode cX11_person 151 = .ok (.iconst 0, 1) := by decide +kernel
theorem dX11_person_152 : decode cX11_person 152 = .ok (.ireturn, 1) := by decide +kernel
theorem dX11_person_153 : decode cX11_person 153 = .ok (.aload_n 0, 1) := by decide +kernel
theorem dX11_person_154 : decode cX11_person 154 = .ok (.getfield 78, 3) := by decide +kernel
theorem dX11_person_157 : decode cX11_person 157 = .ok (.aload_n 0, 1) := by decide +kernel
theorem dX11_person_158 : decode cX11_person 158 = .ok (.getfield 48, 3) := by decide +kernel
theorem dX11_person_161 : decode cX11_person 161 = .ok (.iload_n 1, 1) := by decide +kernel
theorem dX11_person_162 : decode cX11_person 162 = .ok (.invokevirtual 220, 3) := by decide +kernel
theorem dX11_person_165 : decode cX11_person 165 = .ok (.ireturn, 1) := by decide +kernel
theorem dX11_person_166 : decode cX11_person 166 = .ok (.new 188, 3) := by decide +kernel
theorem dX11_person_169 : decode cX11_person 169 = .ok (.dup, 1) := by decide +kernel
theorem dX11_person_170 : decode cX11_person 170 = .ok (.ldc 223, 2) := by decide +kernel
theorem dX11_person_172 : decode cX11_person 172 = .ok (.invokespecial 192, 3) := by decide +kernel
theorem dX11_person_175 : decode cX11_person 175 = .ok (.athrow, 1) := by decide +kernel
theorem dX11_house_0 : decode cX11_house 0 = .ok (.aload_n 0, 1) := by decide +kernel
theorem dX11_house_1 : decode cX11_house 1 = .ok (.iload_n 1, 1) := by decide +kernel
theorem dX11_house_2 : decode cX11_house 2 = .ok (.invokevirtual 225, 3) := by decide +kernel
theorem dX11_house_5 : decode cX11_house 5 = .ok (.iload_n 2, 1) := by decide +kernel
theorem dX11_house_6 : decode cX11_house 6 = .ok (.tableswitch 122 0 6 #[42, 52, 61, 71, 91, 100, 113], 42) := by decide +kernel
theorem dX11_house_48 : decode cX11_house 48 = .ok (.aload_n 0, 1) := by decide +kernel
theorem dX11_house_49 : decode cX11_house 49 = .ok (.getfield 48, 3) := by decide +kernel
theorem dX11_house_52 : decode cX11_house 52 = .ok (.getfield 228, 3) := by decide +kernel
theorem dX11_house_55 : decode cX11_house 55 = .ok (.iload_n 1, 1) := by decide +kernel
theorem dX11_house_56 : decode cX11_house 56 = .ok (.iaload, 1) := by decide +kernel
theorem dX11_house_57 : decode cX11_house 57 = .ok (.ireturn, 1) := by decide +kernel
theorem dX11_house_58 : decode cX11_house 58 = .ok (.aload_n 0, 1) := by decide +kernel
theorem dX11_house_59 : decode cX11_house 59 = .ok (.getfield 48, 3) := by decide +kernel
theorem dX11_house_62 : decode cX11_house 62 = .ok (.iload_n 1, 1) := by decide +kernel
theorem dX11_house_63 : decode cX11_house 63 = .ok (.invokevirtual 231, 3) := by decide +kernel
theorem dX11_house_66 : decode cX11_house 66 = .ok (.ireturn, 1) := by decide +kernel
theorem dX11_house_67 : decode cX11_house 67 = .ok (.aload_n 0, 1) := by decide +kernel
theorem dX11_house_68 : decode cX11_house 68 = .ok (.getfield 48, 3) := by decide +kernel
theorem dX11_house_71 : decode cX11_house 71 = .ok (.iload_n 1, 1) := by decide +kernel
theorem dX11_house_72 : decode cX11_house 72 = .ok (.iconst 0, 1) := by decide +kernel
theorem dX11_house_73 : decode cX11_house 73 = .ok (.invokevirtual 234, 3) := by decide +kernel
theorem dX11_house_76 : decode cX11_house 76 = .ok (.ireturn, 1) := by decide +kernel
theorem dX11_house_77 : decode cX11_house 77 = .ok (.aload_n 0, 1) := by decide +kernel
theorem dX11_house_78 : decode cX11_house 78 = .ok (.getfield 48, 3) := by decide +kernel
theorem dX11_house_81 : decode cX11_house 81 = .ok (.iload_n 1, 1) := by decide +kernel
theorem dX11_house_82 : decode cX11_house 82 = .ok (.aload_n 0, 1) := by decide +kernel
theorem dX11_house_83 : decode cX11_house 83 = .ok (.getfield 48, 3) := by decide +kernel
theorem dX11_house_86 : decode cX11_house 86 = .ok (.getfield 228, 3) := by decide +kernel
theorem dX11_house_89 : decode cX11_house 89 = .ok (.iload_n 1, 1) := by decide +kernel
theorem dX11_house_90 : decode cX11_house 90 = .ok (.iaload, 1) := by decide +kernel
theorem dX11_house_91 : decode cX11_house 91 = .ok (.iconst 1, 1) := by decide +kernel
theorem dX11_house_92 : decode cX11_house 92 = .ok (.isub, 1) := by decide +kernel
theorem dX11_house_93 : decode cX11_house 93 = .ok (.invokevirtual 234, 3) := by decide +kernel
theorem dX11_house_96 : decode cX11_house 96 = .ok (.ireturn, 1) := by decide +kernel
theorem dX11_house_97 : decode cX11_house 97 = .ok (.aload_n 0, 1) := by decide +kernel
theorem dX11_house_98 : decode cX11_house 98 = .ok (.getfield 48, 3) := by decide +kernel
theorem dX11_house_101 : decode cX11_house 101 = .ok (.iload_n 1, 1) := by decide +kernel
theorem dX11_house_102 : decode cX11_house 102 = .ok (.invokevirtual 238, 3) := by decide +kernel
theorem dX11_house_105 : decode cX11_house 105 = .ok (.ireturn, 1) := by decide +kernel
theorem dX11_house_106 : decode cX11_house 106 = .ok (.aload_n 0, 1) := by decide +kernel
theorem dX11_house_107 : decode cX11_house 107 = .ok (.getfield 41, 3) := by decide +kernel
theorem dX11_house_110 : decode cX11_house 110 = .ok (.aload_n 0, 1) := by decide +kernel
theorem dX11_house_111 : decode cX11_house 111 = .ok (.getfield 48, 3) := by decide +kernel
theorem dX11_house_114 : decode cX11_house 114 = .ok (.iload_n 1, 1) := by decide +kernel
theorem dX11_house_115 : decode cX11_house 115 = .ok (.invokevirtual 216, 3) := by decide +kernel
theorem dX11_house_118 : decode cX11_house 118 = .ok (.ireturn, 1) := by decide +kernel
theorem dX11_house_119 : decode cX11_house 119 = .ok (.aload_n 0, 1) := by decide +kernel
theorem dX11_house_120 : decode cX11_house 120 = .ok (.getfield 48, 3) := by decide +kernel
theorem dX11_house_123 : decode cX11_house 123 = .ok (.iload_n 1, 1) := by decide +kernel
theorem dX11_house_124 : decode cX11_house 124 = .ok (.invokevirtual 241, 3) := by decide +kernel
theorem dX11_house_127 : decode cX11_house 127 = .ok (.ireturn, 1) := by decide +kernel
