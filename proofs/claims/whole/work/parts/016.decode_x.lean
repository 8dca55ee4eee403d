theorem dX12_goerOf_62 : decode cX12_goerOf 62 = .ok (.iload 7, 2) := by decide +kernel
theorem dX12_goerOf_64 : decode cX12_goerOf 64 = .ok (.invokevirtual 316, 3) := by decide +kernel
theorem dX12_goerOf_67 : decode cX12_goerOf 67 = .ok (.istore 8, 2) := by decide +kernel
theorem dX12_goerOf_69 : decode cX12_goerOf 69 = .ok (.iload_n 3, 1) := by decide +kernel
theorem dX12_goerOf_70 : decode cX12_goerOf 70 = .ok (.iconst (-1), 1) := by decide +kernel
theorem dX12_goerOf_71 : decode cX12_goerOf 71 = .ok (.if_icmp .eq 13, 3) := by decide +kernel
theorem dX12_goerOf_74 : decode cX12_goerOf 74 = .ok (.iload 8, 2) := by decide +kernel
theorem dX12_goerOf_76 : decode cX12_goerOf 76 = .ok (.iload 4, 2) := by decide +kernel
theorem dX12_goerOf_78 : decode cX12_goerOf 78 = .ok (.if_icmp .ge 6, 3) := by decide +kernel
theorem dX12_goerOf_81 : decode cX12_goerOf 81 = .ok (.goto 10, 3) := by decide +kernel
theorem dX12_goerOf_84 : decode cX12_goerOf 84 = .ok (.iload 7, 2) := by decide +kernel
theorem dX12_goerOf_86 : decode cX12_goerOf 86 = .ok (.istore_n 3, 1) := by decide +kernel
theorem dX12_goerOf_87 : decode cX12_goerOf 87 = .ok (.iload 8, 2) := by decide +kernel
theorem dX12_goerOf_89 : decode cX12_goerOf 89 = .ok (.istore 4, 2) := by decide +kernel
theorem dX12_goerOf_91 : decode cX12_goerOf 91 = .ok (.iinc 6 1, 3) := by decide +kernel
theorem dX12_goerOf_94 : decode cX12_goerOf 94 = .ok (.goto (-67), 3) := by decide +kernel
theorem dX12_goerOf_97 : decode cX12_goerOf 97 = .ok (.iload_n 3, 1) := by decide +kernel
theorem dX12_goerOf_98 : decode cX12_goerOf 98 = .ok (.ireturn, 1) := by decide +kernel
theorem dX12_leaves_0 : decode cX12_leaves 0 = .ok (.iconst 0, 1) := by decide +kernel
theorem dX12_leaves_1 : decode cX12_leaves 1 = .ok (.istore_n 3, 1) := by decide +kernel
theorem dX12_leaves_2 : decode cX12_leaves 2 = .ok (.iload_n 3, 1) := by decide +kernel
theorem dX12_leaves_3 : decode cX12_leaves 3 = .ok (.aload_n 0, 1) := by decide +kernel
theorem dX12_leaves_4 : decode cX12_leaves 4 = .ok (.getfield 264, 3) := by decide +kernel
theorem dX12_leaves_7 : decode cX12_leaves 7 = .ok (.if_icmp .ge 72, 3) := by decide +kernel
theorem dX12_leaves_10 : decode cX12_leaves 10 = .ok (.aload_n 0, 1) := by decide +kernel
theorem dX12_leaves_11 : decode cX12_leaves 11 = .ok (.getfield 48, 3) := by decide +kernel
theorem dX12_leaves_14 : decode cX12_leaves 14 = .ok (.iload_n 1, 1) := by decide +kernel
theorem dX12_leaves_15 : decode cX12_leaves 15 = .ok (.iconst 2, 1) := by decide +kernel
theorem dX12_leaves_16 : decode cX12_leaves 16 = .ok (.iadd, 1) := by decide +kernel
theorem dX12_leaves_17 : decode cX12_leaves 17 = .ok (.iload_n 3, 1) := by decide +kernel
theorem dX12_leaves_18 : decode cX12_leaves 18 = .ok (.iadd, 1) := by decide +kernel
theorem dX12_leaves_19 : decode cX12_leaves 19 = .ok (.iaload, 1) := by decide +kernel
theorem dX12_leaves_20 : decode cX12_leaves 20 = .ok (.aload_n 0, 1) := by decide +kernel
theorem dX12_leaves_21 : decode cX12_leaves 21 = .ok (.getfield 48, 3) := by decide +kernel
theorem dX12_leaves_24 : decode cX12_leaves 24 = .ok (.iload_n 1, 1) := by decide +kernel
theorem dX12_leaves_25 : decode cX12_leaves 25 = .ok (.iconst 2, 1) := by decide +kernel
theorem dX12_leaves_26 : decode cX12_leaves 26 = .ok (.iadd, 1) := by decide +kernel
theorem dX12_leaves_27 : decode cX12_leaves 27 = .ok (.iload_n 2, 1) := by decide +kernel
theorem dX12_leaves_28 : decode cX12_leaves 28 = .ok (.iadd, 1) := by decide +kernel
theorem dX12_leaves_29 : decode cX12_leaves 29 = .ok (.iaload, 1) := by decide +kernel
theorem dX12_leaves_30 : decode cX12_leaves 30 = .ok (.if_icmp .ne 43, 3) := by decide +kernel
theorem dX12_leaves_33 : decode cX12_leaves 33 = .ok (.aload_n 0, 1) := by decide +kernel
theorem dX12_leaves_34 : decode cX12_leaves 34 = .ok (.getfield 48, 3) := by decide +kernel
theorem dX12_leaves_37 : decode cX12_leaves 37 = .ok (.iload_n 1, 1) := by decide +kernel
theorem dX12_leaves_38 : decode cX12_leaves 38 = .ok (.bipush 14, 2) := by decide +kernel
theorem dX12_leaves_40 : decode cX12_leaves 40 = .ok (.iadd, 1) := by decide +kernel
theorem dX12_leaves_41 : decode cX12_leaves 41 = .ok (.iload_n 3, 1) := by decide +kernel
theorem dX12_leaves_42 : decode cX12_leaves 42 = .ok (.iadd, 1) := by decide +kernel
theorem dX12_leaves_43 : decode cX12_leaves 43 = .ok (.iaload, 1) := by decide +kernel
theorem dX12_leaves_44 : decode cX12_leaves 44 = .ok (.aload_n 0, 1) := by decide +kernel
theorem dX12_leaves_45 : decode cX12_leaves 45 = .ok (.getfield 48, 3) := by decide +kernel
theorem dX12_leaves_48 : decode cX12_leaves 48 = .ok (.iload_n 1, 1) := by decide +kernel
theorem dX12_leaves_49 : decode cX12_leaves 49 = .ok (.bipush 14, 2) := by decide +kernel
theorem dX12_leaves_51 : decode cX12_leaves 51 = .ok (.iadd, 1) := by decide +kernel
theorem dX12_leaves_52 : decode cX12_leaves 52 = .ok (.iload_n 2, 1) := by decide +kernel
theorem dX12_leaves_53 : decode cX12_leaves 53 = .ok (.iadd, 1) := by decide +kernel
theorem dX12_leaves_54 : decode cX12_leaves 54 = .ok (.iaload, 1) := by decide +kernel
theorem dX12_leaves_55 : decode cX12_leaves 55 = .ok (.if_icmp .le 18, 3) := by decide +kernel
theorem dX12_leaves_58 : decode cX12_leaves 58 = .ok (.aload_n 0, 1) := by decide +kernel
theorem dX12_leaves_59 : decode cX12_leaves 59 = .ok (.getfield 48, 3) := by decide +kernel
theorem dX12_leaves_62 : decode cX12_leaves 62 = .ok (.iload_n 1, 1) := by decide +kernel
theorem dX12_leaves_63 : decode cX12_leaves 63 = .ok (.bipush 14, 2) := by decide +kernel
theorem dX12_leaves_65 : decode cX12_leaves 65 = .ok (.iadd, 1) := by decide +kernel
theorem dX12_leaves_66 : decode cX12_leaves 66 = .ok (.iload_n 3, 1) := by decide +kernel
theorem dX12_leaves_67 : decode cX12_leaves 67 = .ok (.iadd, 1) := by decide +kernel
theorem dX12_leaves_68 : decode cX12_leaves 68 = .ok (.dup2, 1) := by decide +kernel
theorem dX12_leaves_69 : decode cX12_leaves 69 = .ok (.iaload, 1) := by decide +kernel
theorem dX12_leaves_70 : decode cX12_leaves 70 = .ok (.iconst 1, 1) := by decide +kernel
theorem dX12_leaves_71 : decode cX12_leaves 71 = .ok (.isub, 1) := by decide +kernel
theorem dX12_leaves_72 : decode cX12_leaves 72 = .ok (.iastore, 1) := by decide +kernel
theorem dX12_leaves_73 : decode cX12_leaves 73 = .ok (.iinc 3 1, 3) := by decide +kernel
theorem dX12_leaves_76 : decode cX12_leaves 76 = .ok (.goto (-74), 3) := by decide +kernel
theorem dX12_leaves_79 : decode cX12_leaves 79 = .ok (.aload_n 0, 1) := by decide +kernel
theorem dX12_leaves_80 : decode cX12_leaves 80 = .ok (.getfield 48, 3) := by decide +kernel
theorem dX12_leaves_83 : decode cX12_leaves 83 = .ok (.iload_n 1, 1) := by decide +kernel
theorem dX12_leaves_84 : decode cX12_leaves 84 = .ok (.iconst 2, 1) := by decide +kernel
theorem dX12_leaves_85 : decode cX12_leaves 85 = .ok (.iadd, 1) := by decide +kernel
theorem dX12_leaves_86 : decode cX12_leaves 86 = .ok (.iload_n 2, 1) := by decide +kernel
theorem dX12_leaves_87 : decode cX12_leaves 87 = .ok (.iadd, 1) := by decide +kernel
theorem dX12_leaves_88 : decode cX12_leaves 88 = .ok (.iconst (-1), 1) := by decide +kernel
theorem dX12_leaves_89 : decode cX12_leaves 89 = .ok (.iastore, 1) := by decide +kernel
theorem dX12_leaves_90 : decode cX12_leaves 90 = .ok (.return_, 1) := by decide +kernel
theorem dX12_falls0_0 : decode cX12_falls0 0 = .ok (.iconst 0, 1) := by decide +kernel
theorem dX12_falls0_1 : decode cX12_falls0 1 = .ok (.istore_n 2, 1) := by decide +kernel
theorem dX12_falls0_2 : decode cX12_falls0 2 = .ok (.iconst 0, 1) := by decide +kernel
theorem dX12_falls0_3 : decode cX12_falls0 3 = .ok (.istore_n 3, 1) := by decide +kernel
theorem dX12_falls0_4 : decode cX12_falls0 4 = .ok (.iload_n 3, 1) := by decide +kernel
theorem dX12_falls0_5 : decode cX12_falls0 5 = .ok (.aload_n 0, 1) := by decide +kernel
theorem dX12_falls0_6 : decode cX12_falls0 6 = .ok (.getfield 48, 3) := by decide +kernel
theorem dX12_falls0_9 : decode cX12_falls0 9 = .ok (.iload_n 1, 1) := by decide +kernel
theorem dX12_falls0_10 : decode cX12_falls0 10 = .ok (.iconst 1, 1) := by decide +kernel
theorem dX12_falls0_11 : decode cX12_falls0 11 = .ok (.iadd, 1) := by decide +kernel
theorem dX12_falls0_12 : decode cX12_falls0 12 = .ok (.iaload, 1) := by decide +kernel
theorem dX12_falls0_13 : decode cX12_falls0 13 = .ok (.if_icmp .ge 113, 3) := by decide +kernel
theorem dX12_falls0_16 : decode cX12_falls0 16 = .ok (.aload_n 0, 1) := by decide +kernel
theorem dX12_falls0_17 : decode cX12_falls0 17 = .ok (.iload_n 1, 1) := by decide +kernel
theorem dX12_falls0_18 : decode cX12_falls0 18 = .ok (.iload_n 3, 1) := by decide +kernel
theorem dX12_falls0_19 : decode cX12_falls0 19 = .ok (.invokevirtual 288, 3) := by decide +kernel
theorem dX12_falls0_22 : decode cX12_falls0 22 = .ok (.istore 4, 2) := by decide +kernel
theorem dX12_falls0_24 : decode cX12_falls0 24 = .ok (.iload 4, 2) := by decide +kernel
theorem dX12_falls0_26 : decode cX12_falls0 26 = .ok (.ifCond .ne 6, 3) := by decide +kernel
theorem dX12_falls0_29 : decode cX12_falls0 29 = .ok (.goto 91, 3) := by decide +kernel
theorem dX12_falls0_32 : decode cX12_falls0 32 = .ok (.iconst 0, 1) := by decide +kernel
theorem dX12_falls0_33 : decode cX12_falls0 33 = .ok (.istore 5, 2) := by decide +kernel
theorem dX12_falls0_35 : decode cX12_falls0 35 = .ok (.iload 5, 2) := by decide +kernel
theorem dX12_falls0_37 : decode cX12_falls0 37 = .ok (.aload_n 0, 1) := by decide +kernel
theorem dX12_falls0_38 : decode cX12_falls0 38 = .ok (.getfield 264, 3) := by decide +kernel
theorem dX12_falls0_41 : decode cX12_falls0 41 = .ok (.if_icmp .ge 32, 3) := by decide +kernel
theorem dX12_falls0_44 : decode cX12_falls0 44 = .ok (.iload 4, 2) := by decide +kernel
theorem dX12_falls0_46 : decode cX12_falls0 46 = .ok (.iload 5, 2) := by decide +kernel
theorem dX12_falls0_48 : decode cX12_falls0 48 = .ok (.ishr, 1) := by decide +kernel
theorem dX12_falls0_49 : decode cX12_falls0 49 = .ok (.iconst 1, 1) := by decide +kernel
theorem dX12_falls0_50 : decode cX12_falls0 50 = .ok (.iand, 1) := by decide +kernel
theorem dX12_falls0_51 : decode cX12_falls0 51 = .ok (.iconst 1, 1) := by decide +kernel
theorem dX12_falls0_52 : decode cX12_falls0 52 = .ok (.if_icmp .ne 15, 3) := by decide +kernel
theorem dX12_falls0_55 : decode cX12_falls0 55 = .ok (.aload_n 0, 1) := by decide +kernel
theorem dX12_falls0_56 : decode cX12_falls0 56 = .ok (.getfield 48, 3) := by decide +kernel
theorem dX12_falls0_59 : decode cX12_falls0 59 = .ok (.iload_n 1, 1) := by decide +kernel
theorem dX12_falls0_60 : decode cX12_falls0 60 = .ok (.iconst 2, 1) := by decide +kernel
theorem dX12_falls0_61 : decode cX12_falls0 61 = .ok (.iadd, 1) := by decide +kernel
theorem dX12_falls0_62 : decode cX12_falls0 62 = .ok (.iload 5, 2) := by decide +kernel
theorem dX12_falls0_64 : decode cX12_falls0 64 = .ok (.iadd, 1) := by decide +kernel
theorem dX12_falls0_65 : decode cX12_falls0 65 = .ok (.iload_n 2, 1) := by decide +kernel
theorem dX12_falls0_66 : decode cX12_falls0 66 = .ok (.iastore, 1) := by decide +kernel
theorem dX12_falls0_67 : decode cX12_falls0 67 = .ok (.iinc 5 1, 3) := by decide +kernel
theorem dX12_falls0_70 : decode cX12_falls0 70 = .ok (.goto (-35), 3) := by decide +kernel
theorem dX12_falls0_73 : decode cX12_falls0 73 = .ok (.aload_n 0, 1) := by decide +kernel
theorem dX12_falls0_74 : decode cX12_falls0 74 = .ok (.getfield 48, 3) := by decide +kernel
theorem dX12_falls0_77 : decode cX12_falls0 77 = .ok (.iload_n 1, 1) := by decide +kernel
theorem dX12_falls0_78 : decode cX12_falls0 78 = .ok (.bipush 62, 2) := by decide +kernel
theorem dX12_falls0_80 : decode cX12_falls0 80 = .ok (.iadd, 1) := by decide +kernel
theorem dX12_falls0_81 : decode cX12_falls0 81 = .ok (.iload_n 2, 1) := by decide +kernel
theorem dX12_falls0_82 : decode cX12_falls0 82 = .ok (.iadd, 1) := by decide +kernel
theorem dX12_falls0_83 : decode cX12_falls0 83 = .ok (.aload_n 0, 1) := by decide +kernel
theorem dX12_falls0_84 : decode cX12_falls0 84 = .ok (.getfield 48, 3) := by decide +kernel
theorem dX12_falls0_87 : decode cX12_falls0 87 = .ok (.iload_n 1, 1) := by decide +kernel
theorem dX12_falls0_88 : decode cX12_falls0 88 = .ok (.bipush 62, 2) := by decide +kernel
theorem dX12_falls0_90 : decode cX12_falls0 90 = .ok (.iadd, 1) := by decide +kernel
theorem dX12_falls0_91 : decode cX12_falls0 91 = .ok (.iload_n 3, 1) := by decide +kernel
theorem dX12_falls0_92 : decode cX12_falls0 92 = .ok (.iadd, 1) := by decide +kernel
theorem dX12_falls0_93 : decode cX12_falls0 93 = .ok (.iaload, 1) := by decide +kernel
theorem dX12_falls0_94 : decode cX12_falls0 94 = .ok (.iastore, 1) := by decide +kernel
theorem dX12_falls0_95 : decode cX12_falls0 95 = .ok (.aload_n 0, 1) := by decide +kernel
theorem dX12_falls0_96 : decode cX12_falls0 96 = .ok (.getfield 48, 3) := by decide +kernel
theorem dX12_falls0_99 : decode cX12_falls0 99 = .ok (.iload_n 1, 1) := by decide +kernel
theorem dX12_falls0_100 : decode cX12_falls0 100 = .ok (.bipush 74, 2) := by decide +kernel
theorem dX12_falls0_102 : decode cX12_falls0 102 = .ok (.iadd, 1) := by decide +kernel
theorem dX12_falls0_103 : decode cX12_falls0 103 = .ok (.iload_n 2, 1) := by decide +kernel
theorem dX12_falls0_104 : decode cX12_falls0 104 = .ok (.iadd, 1) := by decide +kernel
theorem dX12_falls0_105 : decode cX12_falls0 105 = .ok (.aload_n 0, 1) := by decide +kernel
theorem dX12_falls0_106 : decode cX12_falls0 106 = .ok (.getfield 48, 3) := by decide +kernel
theorem dX12_falls0_109 : decode cX12_falls0 109 = .ok (.iload_n 1, 1) := by decide +kernel
theorem dX12_falls0_110 : decode cX12_falls0 110 = .ok (.bipush 74, 2) := by decide +kernel
theorem dX12_falls0_112 : decode cX12_falls0 112 = .ok (.iadd, 1) := by decide +kernel
theorem dX12_falls0_113 : decode cX12_falls0 113 = .ok (.iload_n 3, 1) := by decide +kernel
theorem dX12_falls0_114 : decode cX12_falls0 114 = .ok (.iadd, 1) := by decide +kernel
theorem dX12_falls0_115 : decode cX12_falls0 115 = .ok (.iaload, 1) := by decide +kernel
theorem dX12_falls0_116 : decode cX12_falls0 116 = .ok (.iastore, 1) := by decide +kernel
theorem dX12_falls0_117 : decode cX12_falls0 117 = .ok (.iinc 2 1, 3) := by decide +kernel
theorem dX12_falls0_120 : decode cX12_falls0 120 = .ok (.iinc 3 1, 3) := by decide +kernel
theorem dX12_falls0_123 : decode cX12_falls0 123 = .ok (.goto (-119), 3) := by decide +kernel
theorem dX12_falls0_126 : decode cX12_falls0 126 = .ok (.aload_n 0, 1) := by decide +kernel
theorem dX12_falls0_127 : decode cX12_falls0 127 = .ok (.getfield 48, 3) := by decide +kernel
theorem dX12_falls0_130 : decode cX12_falls0 130 = .ok (.iload_n 1, 1) := by decide +kernel
theorem dX12_falls0_131 : decode cX12_falls0 131 = .ok (.iconst 1, 1) := by decide +kernel
theorem dX12_falls0_132 : decode cX12_falls0 132 = .ok (.iadd, 1) := by decide +kernel
theorem dX12_falls0_133 : decode cX12_falls0 133 = .ok (.iload_n 2, 1) := by decide +kernel
theorem dX12_falls0_134 : decode cX12_falls0 134 = .ok (.iastore, 1) := by decide +kernel
theorem dX12_falls0_135 : decode cX12_falls0 135 = .ok (.return_, 1) := by decide +kernel
theorem dX12_founds_0 : decode cX12_founds 0 = .ok (.aload_n 0, 1) := by decide +kernel
theorem dX12_founds_1 : decode cX12_founds 1 = .ok (.getfield 48, 3) := by decide +kernel
theorem dX12_founds_4 : decode cX12_founds 4 = .ok (.iload_n 1, 1) := by decide +kernel
theorem dX12_founds_5 : decode cX12_founds 5 = .ok (.bipush 62, 2) := by decide +kernel
theorem dX12_founds_7 : decode cX12_founds 7 = .ok (.iadd, 1) := by decide +kernel
theorem dX12_founds_8 : decode cX12_founds 8 = .ok (.aload_n 0, 1) := by decide +kernel
theorem dX12_founds_9 : decode cX12_founds 9 = .ok (.getfield 48, 3) := by decide +kernel
theorem dX12_founds_12 : decode cX12_founds 12 = .ok (.iload_n 1, 1) := by decide +kernel
theorem dX12_founds_13 : decode cX12_founds 13 = .ok (.iconst 1, 1) := by decide +kernel
theorem dX12_founds_14 : decode cX12_founds 14 = .ok (.iadd, 1) := by decide +kernel
theorem dX12_founds_15 : decode cX12_founds 15 = .ok (.iaload, 1) := by decide +kernel
theorem dX12_founds_16 : decode cX12_founds 16 = .ok (.iadd, 1) := by decide +kernel
theorem dX12_founds_17 : decode cX12_founds 17 = .ok (.iconst 0, 1) := by decide +kernel
theorem dX12_founds_18 : decode cX12_founds 18 = .ok (.iastore, 1) := by decide +kernel
theorem dX12_founds_19 : decode cX12_founds 19 = .ok (.aload_n 0, 1) := by decide +kernel
theorem dX12_founds_20 : decode cX12_founds 20 = .ok (.getfield 48, 3) := by decide +kernel
theorem dX12_founds_23 : decode cX12_founds 23 = .ok (.iload_n 1, 1) := by decide +kernel
theorem dX12_founds_24 : decode cX12_founds 24 = .ok (.bipush 74, 2) := by decide +kernel
theorem dX12_founds_26 : decode cX12_founds 26 = .ok (.iadd, 1) := by decide +kernel
theorem dX12_founds_27 : decode cX12_founds 27 = .ok (.aload_n 0, 1) := by decide +kernel
theorem dX12_founds_28 : decode cX12_founds 28 = .ok (.getfield 48, 3) := by decide +kernel
theorem dX12_founds_31 : decode cX12_founds 31 = .ok (.iload_n 1, 1) := by decide +kernel
theorem dX12_founds_32 : decode cX12_founds 32 = .ok (.iconst 1, 1) := by decide +kernel
theorem dX12_founds_33 : decode cX12_founds 33 = .ok (.iadd, 1) := by decide +kernel
theorem dX12_founds_34 : decode cX12_founds 34 = .ok (.iaload, 1) := by decide +kernel
theorem dX12_founds_35 : decode cX12_founds 35 = .ok (.iadd, 1) := by decide +kernel
theorem dX12_founds_36 : decode cX12_founds 36 = .ok (.iconst (-1), 1) := by decide +kernel
theorem dX12_founds_37 : decode cX12_founds 37 = .ok (.iastore, 1) := by decide +kernel
theorem dX12_founds_38 : decode cX12_founds 38 = .ok (.aload_n 0, 1) := by decide +kernel
theorem dX12_founds_39 : decode cX12_founds 39 = .ok (.getfield 48, 3) := by decide +kernel
theorem dX12_founds_42 : decode cX12_founds 42 = .ok (.iload_n 1, 1) := by decide +kernel
theorem dX12_founds_43 : decode cX12_founds 43 = .ok (.iconst 1, 1) := by decide +kernel
theorem dX12_founds_44 : decode cX12_founds 44 = .ok (.iadd, 1) := by decide +kernel
theorem dX12_founds_45 : decode cX12_founds 45 = .ok (.dup2, 1) := by decide +kernel
theorem dX12_founds_46 : decode cX12_founds 46 = .ok (.iaload, 1) := by decide +kernel
theorem dX12_founds_47 : decode cX12_founds 47 = .ok (.iconst 1, 1) := by decide +kernel
theorem dX12_founds_48 : decode cX12_founds 48 = .ok (.iadd, 1) := by decide +kernel
theorem dX12_founds_49 : decode cX12_founds 49 = .ok (.iastore, 1) := by decide +kernel
theorem dX12_founds_50 : decode cX12_founds 50 = .ok (.return_, 1) := by decide +kernel
theorem dX12_eveningGoes_0 : decode cX12_eveningGoes 0 = .ok (.aload_n 0, 1) := by decide +kernel
theorem dX12_eveningGoes_1 : decode cX12_eveningGoes 1 = .ok (.getfield 48, 3) := by decide +kernel
theorem dX12_eveningGoes_4 : decode cX12_eveningGoes 4 = .ok (.iload_n 1, 1) := by decide +kernel
theorem dX12_eveningGoes_5 : decode cX12_eveningGoes 5 = .ok (.iconst 1, 1) := by decide +kernel
theorem dX12_eveningGoes_6 : decode cX12_eveningGoes 6 = .ok (.iadd, 1) := by decide +kernel
theorem dX12_eveningGoes_7 : decode cX12_eveningGoes 7 = .ok (.iaload, 1) := by decide +kernel
theorem dX12_eveningGoes_8 : decode cX12_eveningGoes 8 = .ok (.istore_n 2, 1) := by decide +kernel
theorem dX12_eveningGoes_9 : decode cX12_eveningGoes 9 = .ok (.iconst 0, 1) := by decide +kernel
theorem dX12_eveningGoes_10 : decode cX12_eveningGoes 10 = .ok (.istore_n 3, 1) := by decide +kernel
theorem dX12_eveningGoes_11 : decode cX12_eveningGoes 11 = .ok (.iload_n 3, 1) := by decide +kernel
theorem dX12_eveningGoes_12 : decode cX12_eveningGoes 12 = .ok (.iload_n 2, 1) := by decide +kernel
theorem dX12_eveningGoes_13 : decode cX12_eveningGoes 13 = .ok (.if_icmp .ge 21, 3) := by decide +kernel
theorem dX12_eveningGoes_16 : decode cX12_eveningGoes 16 = .ok (.aload_n 0, 1) := by decide +kernel
theorem dX12_eveningGoes_17 : decode cX12_eveningGoes 17 = .ok (.getfield 60, 3) := by decide +kernel
theorem dX12_eveningGoes_20 : decode cX12_eveningGoes 20 = .ok (.iload_n 3, 1) := by decide +kernel
theorem dX12_eveningGoes_21 : decode cX12_eveningGoes 21 = .ok (.aload_n 0, 1) := by decide +kernel
theorem dX12_eveningGoes_22 : decode cX12_eveningGoes 22 = .ok (.iload_n 1, 1) := by decide +kernel
theorem dX12_eveningGoes_23 : decode cX12_eveningGoes 23 = .ok (.iload_n 3, 1) := by decide +kernel
theorem dX12_eveningGoes_24 : decode cX12_eveningGoes 24 = .ok (.invokevirtual 319, 3) := by decide +kernel
theorem dX12_eveningGoes_27 : decode cX12_eveningGoes 27 = .ok (.iastore, 1) := by decide +kernel
theorem dX12_eveningGoes_28 : decode cX12_eveningGoes 28 = .ok (.iinc 3 1, 3) := by decide +kernel
theorem dX12_eveningGoes_31 : decode cX12_eveningGoes 31 = .ok (.goto (-20), 3) := by decide +kernel
theorem dX12_eveningGoes_34 : decode cX12_eveningGoes 34 = .ok (.aload_n 0, 1) := by decide +kernel
theorem dX12_eveningGoes_35 : decode cX12_eveningGoes 35 = .ok (.iconst 0, 1) := by decide +kernel
theorem dX12_eveningGoes_36 : decode cX12_eveningGoes 36 = .ok (.putfield 313, 3) := by decide +kernel
theorem dX12_eveningGoes_39 : decode cX12_eveningGoes 39 = .ok (.aload_n 0, 1) := by decide +kernel
theorem dX12_eveningGoes_40 : decode cX12_eveningGoes 40 = .ok (.iconst 0, 1) := by decide +kernel
theorem dX12_eveningGoes_41 : decode cX12_eveningGoes 41 = .ok (.putfield 322, 3) := by decide +kernel
theorem dX12_eveningGoes_44 : decode cX12_eveningGoes 44 = .ok (.iconst 0, 1) := by decide +kernel
theorem dX12_eveningGoes_45 : decode cX12_eveningGoes 45 = .ok (.istore_n 3, 1) := by decide +kernel
theorem dX12_eveningGoes_46 : decode cX12_eveningGoes 46 = .ok (.iload_n 3, 1) := by decide +kernel
theorem dX12_eveningGoes_47 : decode cX12_eveningGoes 47 = .ok (.iload_n 2, 1) := by decide +kernel
theorem dX12_eveningGoes_48 : decode cX12_eveningGoes 48 = .ok (.if_icmp .ge 65, 3) := by decide +kernel
theorem dX12_eveningGoes_51 : decode cX12_eveningGoes 51 = .ok (.aload_n 0, 1) := by decide +kernel
theorem dX12_eveningGoes_52 : decode cX12_eveningGoes 52 = .ok (.getfield 48, 3) := by decide +kernel
theorem dX12_eveningGoes_55 : decode cX12_eveningGoes 55 = .ok (.iload_n 1, 1) := by decide +kernel
theorem dX12_eveningGoes_56 : decode cX12_eveningGoes 56 = .ok (.bipush 62, 2) := by decide +kernel
theorem dX12_eveningGoes_58 : decode cX12_eveningGoes 58 = .ok (.iadd, 1) := by decide +kernel
theorem dX12_eveningGoes_59 : decode cX12_eveningGoes 59 = .ok (.iload_n 3, 1) := by decide +kernel
theorem dX12_eveningGoes_60 : decode cX12_eveningGoes 60 = .ok (.iadd, 1) := by decide +kernel
theorem dX12_eveningGoes_61 : decode cX12_eveningGoes 61 = .ok (.dup2, 1) := by decide +kernel
theorem dX12_eveningGoes_62 : decode cX12_eveningGoes 62 = .ok (.iaload, 1) := by decide +kernel
theorem dX12_eveningGoes_63 : decode cX12_eveningGoes 63 = .ok (.iconst 1, 1) := by decide +kernel
theorem dX12_eveningGoes_64 : decode cX12_eveningGoes 64 = .ok (.iadd, 1) := by decide +kernel
theorem dX12_eveningGoes_65 : decode cX12_eveningGoes 65 = .ok (.iastore, 1) := by decide +kernel
theorem dX12_eveningGoes_66 : decode cX12_eveningGoes 66 = .ok (.aload_n 0, 1) := by decide +kernel
theorem dX12_eveningGoes_67 : decode cX12_eveningGoes 67 = .ok (.getfield 60, 3) := by decide +kernel
theorem dX12_eveningGoes_70 : decode cX12_eveningGoes 70 = .ok (.iload_n 3, 1) := by decide +kernel
theorem dX12_eveningGoes_71 : decode cX12_eveningGoes 71 = .ok (.iaload, 1) := by decide +kernel
theorem dX12_eveningGoes_72 : decode cX12_eveningGoes 72 = .ok (.iconst (-1), 1) := by decide +kernel
theorem dX12_eveningGoes_73 : decode cX12_eveningGoes 73 = .ok (.if_icmp .ne 6, 3) := by decide +kernel
theorem dX12_eveningGoes_76 : decode cX12_eveningGoes 76 = .ok (.goto 31, 3) := by decide +kernel
theorem dX12_eveningGoes_79 : decode cX12_eveningGoes 79 = .ok (.aload_n 0, 1) := by decide +kernel
theorem dX12_eveningGoes_80 : decode cX12_eveningGoes 80 = .ok (.iload_n 1, 1) := by decide +kernel
theorem dX12_eveningGoes_81 : decode cX12_eveningGoes 81 = .ok (.aload_n 0, 1) := by decide +kernel
theorem dX12_eveningGoes_82 : decode cX12_eveningGoes 82 = .ok (.getfield 60, 3) := by decide +kernel
theorem dX12_eveningGoes_85 : decode cX12_eveningGoes 85 = .ok (.iload_n 3, 1) := by decide +kernel
theorem dX12_eveningGoes_86 : decode cX12_eveningGoes 86 = .ok (.iaload, 1) := by decide +kernel
theorem dX12_eveningGoes_87 : decode cX12_eveningGoes 87 = .ok (.invokevirtual 325, 3) := by decide +kernel
theorem dX12_eveningGoes_90 : decode cX12_eveningGoes 90 = .ok (.aload_n 0, 1) := by decide +kernel
theorem dX12_eveningGoes_91 : decode cX12_eveningGoes 91 = .ok (.dup, 1) := by decide +kernel
theorem dX12_eveningGoes_92 : decode cX12_eveningGoes 92 = .ok (.getfield 322, 3) := by decide +kernel
theorem dX12_eveningGoes_95 : decode cX12_eveningGoes 95 = .ok (.iconst 1, 1) := by decide +kernel
theorem dX12_eveningGoes_96 : decode cX12_eveningGoes 96 = .ok (.aload_n 0, 1) := by decide +kernel
theorem dX12_eveningGoes_97 : decode cX12_eveningGoes 97 = .ok (.getfield 60, 3) := by decide +kernel
theorem dX12_eveningGoes_100 : decode cX12_eveningGoes 100 = .ok (.iload_n 3, 1) := by decide +kernel
theorem dX12_eveningGoes_101 : decode cX12_eveningGoes 101 = .ok (.iaload, 1) := by decide +kernel
theorem dX12_eveningGoes_102 : decode cX12_eveningGoes 102 = .ok (.ishl, 1) := by decide +kernel
theorem dX12_eveningGoes_103 : decode cX12_eveningGoes 103 = .ok (.ior, 1) := by decide +kernel
theorem dX12_eveningGoes_104 : decode cX12_eveningGoes 104 = .ok (.putfield 322, 3) := by decide +kernel
theorem dX12_eveningGoes_107 : decode cX12_eveningGoes 107 = .ok (.iinc 3 1, 3) := by decide +kernel
theorem dX12_eveningGoes_110 : decode cX12_eveningGoes 110 = .ok (.goto (-64), 3) := by decide +kernel
theorem dX12_eveningGoes_113 : decode cX12_eveningGoes 113 = .ok (.iconst 0, 1) := by decide +kernel
theorem dX12_eveningGoes_114 : decode cX12_eveningGoes 114 = .ok (.istore_n 3, 1) := by decide +kernel
theorem dX12_eveningGoes_115 : decode cX12_eveningGoes 115 = .ok (.iload_n 3, 1) := by decide +kernel
theorem dX12_eveningGoes_116 : decode cX12_eveningGoes 116 = .ok (.aload_n 0, 1) := by decide +kernel
theorem dX12_eveningGoes_117 : decode cX12_eveningGoes 117 = .ok (.getfield 264, 3) := by decide +kernel
theorem dX12_eveningGoes_120 : decode cX12_eveningGoes 120 = .ok (.if_icmp .ge 85, 3) := by decide +kernel
theorem dX12_eveningGoes_123 : decode cX12_eveningGoes 123 = .ok (.aload_n 0, 1) := by decide +kernel
theorem dX12_eveningGoes_124 : decode cX12_eveningGoes 124 = .ok (.getfield 322, 3) := by decide +kernel
theorem dX12_eveningGoes_127 : decode cX12_eveningGoes 127 = .ok (.iload_n 3, 1) := by decide +kernel
theorem dX12_eveningGoes_128 : decode cX12_eveningGoes 128 = .ok (.ishr, 1) := by decide +kernel
theorem dX12_eveningGoes_129 : decode cX12_eveningGoes 129 = .ok (.iconst 1, 1) := by decide +kernel
theorem dX12_eveningGoes_130 : decode cX12_eveningGoes 130 = .ok (.iand, 1) := by decide +kernel
theorem dX12_eveningGoes_131 : decode cX12_eveningGoes 131 = .ok (.iconst 1, 1) := by decide +kernel
theorem dX12_eveningGoes_132 : decode cX12_eveningGoes 132 = .ok (.if_icmp .ne 7, 3) := by decide +kernel
theorem dX12_eveningGoes_135 : decode cX12_eveningGoes 135 = .ok (.iconst 1, 1) := by decide +kernel
theorem dX12_eveningGoes_136 : decode cX12_eveningGoes 136 = .ok (.goto 4, 3) := by decide +kernel
theorem dX12_eveningGoes_139 : decode cX12_eveningGoes 139 = .ok (.iconst 0, 1) := by decide +kernel
theorem dX12_eveningGoes_140 : decode cX12_eveningGoes 140 = .ok (.istore 4, 2) := by decide +kernel
theorem dX12_eveningGoes_142 : decode cX12_eveningGoes 142 = .ok (.aload_n 0, 1) := by decide +kernel
theorem dX12_eveningGoes_143 : decode cX12_eveningGoes 143 = .ok (.getfield 48, 3) := by decide +kernel
theorem dX12_eveningGoes_146 : decode cX12_eveningGoes 146 = .ok (.iload_n 1, 1) := by decide +kernel
theorem dX12_eveningGoes_147 : decode cX12_eveningGoes 147 = .ok (.bipush 26, 2) := by decide +kernel
theorem dX12_eveningGoes_149 : decode cX12_eveningGoes 149 = .ok (.iadd, 1) := by decide +kernel
theorem dX12_eveningGoes_150 : decode cX12_eveningGoes 150 = .ok (.iload_n 3, 1) := by decide +kernel
theorem dX12_eveningGoes_151 : decode cX12_eveningGoes 151 = .ok (.iadd, 1) := by decide +kernel
theorem dX12_eveningGoes_152 : decode cX12_eveningGoes 152 = .ok (.iload 4, 2) := by decide +kernel
theorem dX12_eveningGoes_154 : decode cX12_eveningGoes 154 = .ok (.ifCond .eq 7, 3) := by decide +kernel
theorem dX12_eveningGoes_157 : decode cX12_eveningGoes 157 = .ok (.iconst 0, 1) := by decide +kernel
theorem dX12_eveningGoes_158 : decode cX12_eveningGoes 158 = .ok (.goto 16, 3) := by decide +kernel
theorem dX12_eveningGoes_161 : decode cX12_eveningGoes 161 = .ok (.aload_n 0, 1) := by decide +kernel
theorem dX12_eveningGoes_162 : decode cX12_eveningGoes 162 = .ok (.getfield 48, 3) := by decide +kernel
theorem dX12_eveningGoes_165 : decode cX12_eveningGoes 165 = .ok (.iload_n 1, 1) := by decide +kernel
theorem dX12_eveningGoes_166 : decode cX12_eveningGoes 166 = .ok (.bipush 26, 2) := by decide +kernel
theorem dX12_eveningGoes_168 : decode cX12_eveningGoes 168 = .ok (.iadd, 1) := by decide +kernel
theorem dX12_eveningGoes_169 : decode cX12_eveningGoes 169 = .ok (.iload_n 3, 1) := by decide +kernel
theorem dX12_eveningGoes_170 : decode cX12_eveningGoes 170 = .ok (.iadd, 1) := by decide +kernel
theorem dX12_eveningGoes_171 : decode cX12_eveningGoes 171 = .ok (.iaload, 1) := by decide +kernel
theorem dX12_eveningGoes_172 : decode cX12_eveningGoes 172 = .ok (.iconst 1, 1) := by decide +kernel
theorem dX12_eveningGoes_173 : decode cX12_eveningGoes 173 = .ok (.iadd, 1) := by decide +kernel
theorem dX12_eveningGoes_174 : decode cX12_eveningGoes 174 = .ok (.iastore, 1) := by decide +kernel
theorem dX12_eveningGoes_175 : decode cX12_eveningGoes 175 = .ok (.aload_n 0, 1) := by decide +kernel
theorem dX12_eveningGoes_176 : decode cX12_eveningGoes 176 = .ok (.getfield 48, 3) := by decide +kernel
theorem dX12_eveningGoes_179 : decode cX12_eveningGoes 179 = .ok (.iload_n 1, 1) := by decide +kernel
theorem dX12_eveningGoes_180 : decode cX12_eveningGoes 180 = .ok (.bipush 38, 2) := by decide +kernel
theorem dX12_eveningGoes_182 : decode cX12_eveningGoes 182 = .ok (.iadd, 1) := by decide +kernel
theorem dX12_eveningGoes_183 : decode cX12_eveningGoes 183 = .ok (.iload_n 3, 1) := by decide +kernel
theorem dX12_eveningGoes_184 : decode cX12_eveningGoes 184 = .ok (.iadd, 1) := by decide +kernel
theorem dX12_eveningGoes_185 : decode cX12_eveningGoes 185 = .ok (.dup2, 1) := by decide +kernel
theorem dX12_eveningGoes_186 : decode cX12_eveningGoes 186 = .ok (.iaload, 1) := by decide +kernel
theorem dX12_eveningGoes_187 : decode cX12_eveningGoes 187 = .ok (.iload 4, 2) := by decide +kernel
theorem dX12_eveningGoes_189 : decode cX12_eveningGoes 189 = .ok (.ifCond .eq 7, 3) := by decide +kernel
theorem dX12_eveningGoes_192 : decode cX12_eveningGoes 192 = .ok (.iconst 1, 1) := by decide +kernel
theorem dX12_eveningGoes_193 : decode cX12_eveningGoes 193 = .ok (.goto 4, 3) := by decide +kernel
theorem dX12_eveningGoes_196 : decode cX12_eveningGoes 196 = .ok (.iconst 0, 1) := by decide +kernel
theorem dX12_eveningGoes_197 : decode cX12_eveningGoes 197 = .ok (.iadd, 1) := by decide +kernel
theorem dX12_eveningGoes_198 : decode cX12_eveningGoes 198 = .ok (.iastore, 1) := by decide +kernel
theorem dX12_eveningGoes_199 : decode cX12_eveningGoes 199 = .ok (.iinc 3 1, 3) := by decide +kernel
theorem dX12_eveningGoes_202 : decode cX12_eveningGoes 202 = .ok (.goto (-87), 3) := by decide +kernel
theorem dX12_eveningGoes_205 : decode cX12_eveningGoes 205 = .ok (.aload_n 0, 1) := by decide +kernel
theorem dX12_eveningGoes_206 : decode cX12_eveningGoes 206 = .ok (.iload_n 1, 1) := by decide +kernel
theorem dX12_eveningGoes_207 : decode cX12_eveningGoes 207 = .ok (.invokevirtual 328, 3) := by decide +kernel
theorem dX12_eveningGoes_210 : decode cX12_eveningGoes 210 = .ok (.iconst 0, 1) := by decide +kernel
theorem dX12_eveningGoes_211 : decode cX12_eveningGoes 211 = .ok (.istore_n 3, 1) := by decide +kernel
theorem dX12_eveningGoes_212 : decode cX12_eveningGoes 212 = .ok (.iconst 0, 1) := by decide +kernel
theorem dX12_eveningGoes_213 : decode cX12_eveningGoes 213 = .ok (.istore 4, 2) := by decide +kernel
theorem dX12_eveningGoes_215 : decode cX12_eveningGoes 215 = .ok (.iload 4, 2) := by decide +kernel
theorem dX12_eveningGoes_217 : decode cX12_eveningGoes 217 = .ok (.iload_n 2, 1) := by decide +kernel
theorem dX12_eveningGoes_218 : decode cX12_eveningGoes 218 = .ok (.if_icmp .ge 68, 3) := by decide +kernel
theorem dX12_eveningGoes_221 : decode cX12_eveningGoes 221 = .ok (.aload_n 0, 1) := by decide +kernel
theorem dX12_eveningGoes_222 : decode cX12_eveningGoes 222 = .ok (.getfield 60, 3) := by decide +kernel
theorem dX12_eveningGoes_225 : decode cX12_eveningGoes 225 = .ok (.iload 4, 2) := by decide +kernel
theorem dX12_eveningGoes_227 : decode cX12_eveningGoes 227 = .ok (.iaload, 1) := by decide +kernel
theorem dX12_eveningGoes_228 : decode cX12_eveningGoes 228 = .ok (.iconst (-1), 1) := by decide +kernel
theorem dX12_eveningGoes_229 : decode cX12_eveningGoes 229 = .ok (.if_icmp .ne 6, 3) := by decide +kernel
theorem dX12_eveningGoes_232 : decode cX12_eveningGoes 232 = .ok (.goto 48, 3) := by decide +kernel
theorem dX12_eveningGoes_235 : decode cX12_eveningGoes 235 = .ok (.aload_n 0, 1) := by decide +kernel
theorem dX12_eveningGoes_236 : decode cX12_eveningGoes 236 = .ok (.getfield 48, 3) := by decide +kernel
theorem dX12_eveningGoes_239 : decode cX12_eveningGoes 239 = .ok (.iload_n 1, 1) := by decide +kernel
theorem dX12_eveningGoes_240 : decode cX12_eveningGoes 240 = .ok (.iconst 2, 1) := by decide +kernel
theorem dX12_eveningGoes_241 : decode cX12_eveningGoes 241 = .ok (.iadd, 1) := by decide +kernel
theorem dX12_eveningGoes_242 : decode cX12_eveningGoes 242 = .ok (.aload_n 0, 1) := by decide +kernel
theorem dX12_eveningGoes_243 : decode cX12_eveningGoes 243 = .ok (.getfield 60, 3) := by decide +kernel
theorem dX12_eveningGoes_246 : decode cX12_eveningGoes 246 = .ok (.iload 4, 2) := by decide +kernel
theorem dX12_eveningGoes_248 : decode cX12_eveningGoes 248 = .ok (.iaload, 1) := by decide +kernel
theorem dX12_eveningGoes_249 : decode cX12_eveningGoes 249 = .ok (.iadd, 1) := by decide +kernel
theorem dX12_eveningGoes_250 : decode cX12_eveningGoes 250 = .ok (.aload_n 0, 1) := by decide +kernel
theorem dX12_eveningGoes_251 : decode cX12_eveningGoes 251 = .ok (.getfield 48, 3) := by decide +kernel
theorem dX12_eveningGoes_254 : decode cX12_eveningGoes 254 = .ok (.iload_n 1, 1) := by decide +kernel
theorem dX12_eveningGoes_255 : decode cX12_eveningGoes 255 = .ok (.iconst 1, 1) := by decide +kernel
theorem dX12_eveningGoes_256 : decode cX12_eveningGoes 256 = .ok (.iadd, 1) := by decide +kernel
theorem dX12_eveningGoes_257 : decode cX12_eveningGoes 257 = .ok (.iaload, 1) := by decide +kernel
theorem dX12_eveningGoes_258 : decode cX12_eveningGoes 258 = .ok (.iastore, 1) := by decide +kernel
theorem dX12_eveningGoes_259 : decode cX12_eveningGoes 259 = .ok (.aload_n 0, 1) := by decide +kernel
theorem dX12_eveningGoes_260 : decode cX12_eveningGoes 260 = .ok (.getfield 48, 3) := by decide +kernel
theorem dX12_eveningGoes_263 : decode cX12_eveningGoes 263 = .ok (.iload_n 1, 1) := by decide +kernel
theorem dX12_eveningGoes_264 : decode cX12_eveningGoes 264 = .ok (.bipush 14, 2) := by decide +kernel
theorem dX12_eveningGoes_266 : decode cX12_eveningGoes 266 = .ok (.iadd, 1) := by decide +kernel
theorem dX12_eveningGoes_267 : decode cX12_eveningGoes 267 = .ok (.aload_n 0, 1) := by decide +kernel
theorem dX12_eveningGoes_268 : decode cX12_eveningGoes 268 = .ok (.getfield 60, 3) := by decide +kernel
theorem dX12_eveningGoes_271 : decode cX12_eveningGoes 271 = .ok (.iload 4, 2) := by decide +kernel
theorem dX12_eveningGoes_273 : decode cX12_eveningGoes 273 = .ok (.iaload, 1) := by decide +kernel
theorem dX12_eveningGoes_274 : decode cX12_eveningGoes 274 = .ok (.iadd, 1) := by decide +kernel
theorem dX12_eveningGoes_275 : decode cX12_eveningGoes 275 = .ok (.iload_n 3, 1) := by decide +kernel
theorem dX12_eveningGoes_276 : decode cX12_eveningGoes 276 = .ok (.iastore, 1) := by decide +kernel
theorem dX12_eveningGoes_277 : decode cX12_eveningGoes 277 = .ok (.iinc 3 1, 3) := by decide +kernel
theorem dX12_eveningGoes_280 : decode cX12_eveningGoes 280 = .ok (.iinc 4 1, 3) := by decide +kernel
theorem dX12_eveningGoes_283 : decode cX12_eveningGoes 283 = .ok (.goto (-68), 3) := by decide +kernel
theorem dX12_eveningGoes_286 : decode cX12_eveningGoes 286 = .ok (.iload_n 3, 1) := by decide +kernel
theorem dX12_eveningGoes_287 : decode cX12_eveningGoes 287 = .ok (.ifCond .le 8, 3) := by decide +kernel
theorem dX12_eveningGoes_290 : decode cX12_eveningGoes 290 = .ok (.aload_n 0, 1) := by decide +kernel
theorem dX12_eveningGoes_291 : decode cX12_eveningGoes 291 = .ok (.iload_n 1, 1) := by decide +kernel
theorem dX12_eveningGoes_292 : decode cX12_eveningGoes 292 = .ok (.invokevirtual 331, 3) := by decide +kernel
theorem dX12_eveningGoes_295 : decode cX12_eveningGoes 295 = .ok (.aload_n 0, 1) := by decide +kernel
theorem dX12_eveningGoes_296 : decode cX12_eveningGoes 296 = .ok (.getfield 48, 3) := by decide +kernel
theorem dX12_eveningGoes_299 : decode cX12_eveningGoes 299 = .ok (.iload_n 1, 1) := by decide +kernel
theorem dX12_eveningGoes_300 : decode cX12_eveningGoes 300 = .ok (.iconst 0, 1) := by decide +kernel
theorem dX12_eveningGoes_301 : decode cX12_eveningGoes 301 = .ok (.iadd, 1) := by decide +kernel
theorem dX12_eveningGoes_302 : decode cX12_eveningGoes 302 = .ok (.dup2, 1) := by decide +kernel
theorem dX12_eveningGoes_303 : decode cX12_eveningGoes 303 = .ok (.iaload, 1) := by decide +kernel
theorem dX12_eveningGoes_304 : decode cX12_eveningGoes 304 = .ok (.iconst 1, 1) := by decide +kernel
theorem dX12_eveningGoes_305 : decode cX12_eveningGoes 305 = .ok (.iadd, 1) := by decide +kernel
theorem dX12_eveningGoes_306 : decode cX12_eveningGoes 306 = .ok (.iastore, 1) := by decide +kernel
theorem dX12_eveningGoes_307 : decode cX12_eveningGoes 307 = .ok (.return_, 1) := by decide +kernel
theorem dX12_eveningsGo_0 : decode cX12_eveningsGo 0 = .ok (.iconst 0, 1) := by decide +kernel
theorem dX12_eveningsGo_1 : decode cX12_eveningsGo 1 = .ok (.istore_n 2, 1) := by decide +kernel
theorem dX12_eveningsGo_2 : decode cX12_eveningsGo 2 = .ok (.iload_n 2, 1) := by decide +kernel
theorem dX12_eveningsGo_3 : decode cX12_eveningsGo 3 = .ok (.iload_n 1, 1) := by decide +kernel
theorem dX12_eveningsGo_4 : decode cX12_eveningsGo 4 = .ok (.if_icmp .ge 15, 3) := by decide +kernel
theorem dX12_eveningsGo_7 : decode cX12_eveningsGo 7 = .ok (.aload_n 0, 1) := by decide +kernel
theorem dX12_eveningsGo_8 : decode cX12_eveningsGo 8 = .ok (.bipush 86, 2) := by decide +kernel
theorem dX12_eveningsGo_10 : decode cX12_eveningsGo 10 = .ok (.invokevirtual 334, 3) := by decide +kernel
theorem dX12_eveningsGo_13 : decode cX12_eveningsGo 13 = .ok (.iinc 2 1, 3) := by decide +kernel
theorem dX12_eveningsGo_16 : decode cX12_eveningsGo 16 = .ok (.goto (-14), 3) := by decide +kernel
theorem dX12_eveningsGo_19 : decode cX12_eveningsGo 19 = .ok (.return_, 1) := by decide +kernel
theorem dX12_goesTo_0 : decode cX12_goesTo 0 = .ok (.aload_n 0, 1) := by decide +kernel
theorem dX12_goesTo_1 : decode cX12_goesTo 1 = .ok (.invokevirtual 337, 3) := by decide +kernel
theorem dX12_goesTo_4 : decode cX12_goesTo 4 = .ok (.aload_n 0, 1) := by decide +kernel
theorem dX12_goesTo_5 : decode cX12_goesTo 5 = .ok (.iload_n 1, 1) := by decide +kernel
theorem dX12_goesTo_6 : decode cX12_goesTo 6 = .ok (.invokevirtual 340, 3) := by decide +kernel
theorem dX12_goesTo_9 : decode cX12_goesTo 9 = .ok (.return_, 1) := by decide +kernel
theorem dX12_laysSizes_0 : decode cX12_laysSizes 0 = .ok (.iconst 0, 1) := by decide +kernel
theorem dX12_laysSizes_1 : decode cX12_laysSizes 1 = .ok (.istore_n 2, 1) := by decide +kernel
theorem dX12_laysSizes_2 : decode cX12_laysSizes 2 = .ok (.iload_n 2, 1) := by decide +kernel
theorem dX12_laysSizes_3 : decode cX12_laysSizes 3 = .ok (.bipush 12, 2) := by decide +kernel
theorem dX12_laysSizes_5 : decode cX12_laysSizes 5 = .ok (.if_icmp .ge 16, 3) := by decide +kernel
theorem dX12_laysSizes_8 : decode cX12_laysSizes 8 = .ok (.aload_n 0, 1) := by decide +kernel
theorem dX12_laysSizes_9 : decode cX12_laysSizes 9 = .ok (.getfield 63, 3) := by decide +kernel
theorem dX12_laysSizes_12 : decode cX12_laysSizes 12 = .ok (.iload_n 2, 1) := by decide +kernel
theorem dX12_laysSizes_13 : decode cX12_laysSizes 13 = .ok (.iconst 0, 1) := by decide +kernel
theorem dX12_laysSizes_14 : decode cX12_laysSizes 14 = .ok (.iastore, 1) := by decide +kernel
theorem dX12_laysSizes_15 : decode cX12_laysSizes 15 = .ok (.iinc 2 1, 3) := by decide +kernel
theorem dX12_laysSizes_18 : decode cX12_laysSizes 18 = .ok (.goto (-16), 3) := by decide +kernel
theorem dX12_laysSizes_21 : decode cX12_laysSizes 21 = .ok (.iconst 0, 1) := by decide +kernel
theorem dX12_laysSizes_22 : decode cX12_laysSizes 22 = .ok (.istore_n 2, 1) := by decide +kernel
theorem dX12_laysSizes_23 : decode cX12_laysSizes 23 = .ok (.iload_n 2, 1) := by decide +kernel
theorem dX12_laysSizes_24 : decode cX12_laysSizes 24 = .ok (.aload_n 0, 1) := by decide +kernel
theorem dX12_laysSizes_25 : decode cX12_laysSizes 25 = .ok (.getfield 48, 3) := by decide +kernel
theorem dX12_laysSizes_28 : decode cX12_laysSizes 28 = .ok (.iload_n 1, 1) := by decide +kernel
theorem dX12_laysSizes_29 : decode cX12_laysSizes 29 = .ok (.iconst 1, 1) := by decide +kernel
theorem dX12_laysSizes_30 : decode cX12_laysSizes 30 = .ok (.iadd, 1) := by decide +kernel
theorem dX12_laysSizes_31 : decode cX12_laysSizes 31 = .ok (.iaload, 1) := by decide +kernel
theorem dX12_laysSizes_32 : decode cX12_laysSizes 32 = .ok (.if_icmp .ge 67, 3) := by decide +kernel
theorem dX12_laysSizes_35 : decode cX12_laysSizes 35 = .ok (.aload_n 0, 1) := by decide +kernel
theorem dX12_laysSizes_36 : decode cX12_laysSizes 36 = .ok (.iload_n 1, 1) := by decide +kernel
theorem dX12_laysSizes_37 : decode cX12_laysSizes 37 = .ok (.iload_n 2, 1) := by decide +kernel
theorem dX12_laysSizes_38 : decode cX12_laysSizes 38 = .ok (.invokevirtual 297, 3) := by decide +kernel
theorem dX12_laysSizes_41 : decode cX12_laysSizes 41 = .ok (.istore_n 3, 1) := by decide +kernel
theorem dX12_laysSizes_42 : decode cX12_laysSizes 42 = .ok (.iload_n 2, 1) := by decide +kernel
theorem dX12_laysSizes_43 : decode cX12_laysSizes 43 = .ok (.istore 4, 2) := by decide +kernel
theorem dX12_laysSizes_45 : decode cX12_laysSizes 45 = .ok (.iload 4, 2) := by decide +kernel
theorem dX12_laysSizes_47 : decode cX12_laysSizes 47 = .ok (.ifCond .le 38, 3) := by decide +kernel
theorem dX12_laysSizes_50 : decode cX12_laysSizes 50 = .ok (.aload_n 0, 1) := by decide +kernel
theorem dX12_laysSizes_51 : decode cX12_laysSizes 51 = .ok (.getfield 63, 3) := by decide +kernel
theorem dX12_laysSizes_54 : decode cX12_laysSizes 54 = .ok (.iload 4, 2) := by decide +kernel
theorem dX12_laysSizes_56 : decode cX12_laysSizes 56 = .ok (.iconst 1, 1) := by decide +kernel
theorem dX12_laysSizes_57 : decode cX12_laysSizes 57 = .ok (.isub, 1) := by decide +kernel
theorem dX12_laysSizes_58 : decode cX12_laysSizes 58 = .ok (.iaload, 1) := by decide +kernel
theorem dX12_laysSizes_59 : decode cX12_laysSizes 59 = .ok (.iload_n 3, 1) := by decide +kernel
theorem dX12_laysSizes_60 : decode cX12_laysSizes 60 = .ok (.if_icmp .ge 25, 3) := by decide +kernel
theorem dX12_laysSizes_63 : decode cX12_laysSizes 63 = .ok (.aload_n 0, 1) := by decide +kernel
theorem dX12_laysSizes_64 : decode cX12_laysSizes 64 = .ok (.getfield 63, 3) := by decide +kernel
theorem dX12_laysSizes_67 : decode cX12_laysSizes 67 = .ok (.iload 4, 2) := by decide +kernel
theorem dX12_laysSizes_69 : decode cX12_laysSizes 69 = .ok (.aload_n 0, 1) := by decide +kernel
theorem dX12_laysSizes_70 : decode cX12_laysSizes 70 = .ok (.getfield 63, 3) := by decide +kernel
theorem dX12_laysSizes_73 : decode cX12_laysSizes 73 = .ok (.iload 4, 2) := by decide +kernel
theorem dX12_laysSizes_75 : decode cX12_laysSizes 75 = .ok (.iconst 1, 1) := by decide +kernel
theorem dX12_laysSizes_76 : decode cX12_laysSizes 76 = .ok (.isub, 1) := by decide +kernel
theorem dX12_laysSizes_77 : decode cX12_laysSizes 77 = .ok (.iaload, 1) := by decide +kernel
theorem dX12_laysSizes_78 : decode cX12_laysSizes 78 = .ok (.iastore, 1) := by decide +kernel
theorem dX12_laysSizes_79 : decode cX12_laysSizes 79 = .ok (.iinc 4 (-1), 3) := by decide +kernel
theorem dX12_laysSizes_82 : decode cX12_laysSizes 82 = .ok (.goto (-37), 3) := by decide +kernel
theorem dX12_laysSizes_85 : decode cX12_laysSizes 85 = .ok (.aload_n 0, 1) := by decide +kernel
theorem dX12_laysSizes_86 : decode cX12_laysSizes 86 = .ok (.getfield 63, 3) := by decide +kernel
theorem dX12_laysSizes_89 : decode cX12_laysSizes 89 = .ok (.iload 4, 2) := by decide +kernel
theorem dX12_laysSizes_91 : decode cX12_laysSizes 91 = .ok (.iload_n 3, 1) := by decide +kernel
theorem dX12_laysSizes_92 : decode cX12_laysSizes 92 = .ok (.iastore, 1) := by decide +kernel
theorem dX12_laysSizes_93 : decode cX12_laysSizes 93 = .ok (.iinc 2 1, 3) := by decide +kernel
theorem dX12_laysSizes_96 : decode cX12_laysSizes 96 = .ok (.goto (-73), 3) := by decide +kernel
theorem dX12_laysSizes_99 : decode cX12_laysSizes 99 = .ok (.return_, 1) := by decide +kernel
theorem dX12_aloneOnes_0 : decode cX12_aloneOnes 0 = .ok (.iconst 0, 1) := by decide +kernel
theorem dX12_aloneOnes_1 : decode cX12_aloneOnes 1 = .ok (.istore_n 2, 1) := by decide +kernel
theorem dX12_aloneOnes_2 : decode cX12_aloneOnes 2 = .ok (.iconst 0, 1) := by decide +kernel
theorem dX12_aloneOnes_3 : decode cX12_aloneOnes 3 = .ok (.istore_n 3, 1) := by decide +kernel
theorem dX12_aloneOnes_4 : decode cX12_aloneOnes 4 = .ok (.iload_n 3, 1) := by decide +kernel
theorem dX12_aloneOnes_5 : decode cX12_aloneOnes 5 = .ok (.aload_n 0, 1) := by decide +kernel
theorem dX12_aloneOnes_6 : decode cX12_aloneOnes 6 = .ok (.getfield 48, 3) := by decide +kernel
theorem dX12_aloneOnes_9 : decode cX12_aloneOnes 9 = .ok (.iload_n 1, 1) := by decide +kernel
theorem dX12_aloneOnes_10 : decode cX12_aloneOnes 10 = .ok (.iconst 1, 1) := by decide +kernel
theorem dX12_aloneOnes_11 : decode cX12_aloneOnes 11 = .ok (.iadd, 1) := by decide +kernel
theorem dX12_aloneOnes_12 : decode cX12_aloneOnes 12 = .ok (.iaload, 1) := by decide +kernel
theorem dX12_aloneOnes_13 : decode cX12_aloneOnes 13 = .ok (.if_icmp .ge 32, 3) := by decide +kernel
theorem dX12_aloneOnes_16 : decode cX12_aloneOnes 16 = .ok (.iload_n 2, 1) := by decide +kernel
theorem dX12_aloneOnes_17 : decode cX12_aloneOnes 17 = .ok (.aload_n 0, 1) := by decide +kernel
theorem dX12_aloneOnes_18 : decode cX12_aloneOnes 18 = .ok (.iload_n 1, 1) := by decide +kernel
theorem dX12_aloneOnes_19 : decode cX12_aloneOnes 19 = .ok (.iload_n 3, 1) := by decide +kernel
theorem dX12_aloneOnes_20 : decode cX12_aloneOnes 20 = .ok (.invokevirtual 297, 3) := by decide +kernel
theorem dX12_aloneOnes_23 : decode cX12_aloneOnes 23 = .ok (.iconst 1, 1) := by decide +kernel
theorem dX12_aloneOnes_24 : decode cX12_aloneOnes 24 = .ok (.if_icmp .ne 12, 3) := by decide +kernel
theorem dX12_aloneOnes_27 : decode cX12_aloneOnes 27 = .ok (.aload_n 0, 1) := by decide +kernel
theorem dX12_aloneOnes_28 : decode cX12_aloneOnes 28 = .ok (.iload_n 1, 1) := by decide +kernel
theorem dX12_aloneOnes_29 : decode cX12_aloneOnes 29 = .ok (.iload_n 3, 1) := by decide +kernel
theorem dX12_aloneOnes_30 : decode cX12_aloneOnes 30 = .ok (.invokevirtual 288, 3) := by decide +kernel
theorem dX12_aloneOnes_33 : decode cX12_aloneOnes 33 = .ok (.goto 4, 3) := by decide +kernel
theorem dX12_aloneOnes_36 : decode cX12_aloneOnes 36 = .ok (.iconst 0, 1) := by decide +kernel
theorem dX12_aloneOnes_37 : decode cX12_aloneOnes 37 = .ok (.ior, 1) := by decide +kernel
theorem dX12_aloneOnes_38 : decode cX12_aloneOnes 38 = .ok (.istore_n 2, 1) := by decide +kernel
theorem dX12_aloneOnes_39 : decode cX12_aloneOnes 39 = .ok (.iinc 3 1, 3) := by decide +kernel
theorem dX12_aloneOnes_42 : decode cX12_aloneOnes 42 = .ok (.goto (-38), 3) := by decide +kernel
theorem dX12_aloneOnes_45 : decode cX12_aloneOnes 45 = .ok (.iload_n 2, 1) := by decide +kernel
theorem dX12_aloneOnes_46 : decode cX12_aloneOnes 46 = .ok (.ireturn, 1) := by decide +kernel
theorem dX12_friendsIn_0 : decode cX12_friendsIn 0 = .ok (.iconst 0, 1) := by decide +kernel
theorem dX12_friendsIn_1 : decode cX12_friendsIn 1 = .ok (.istore_n 2, 1) := by decide +kernel
theorem dX12_friendsIn_2 : decode cX12_friendsIn 2 = .ok (.iconst 0, 1) := by decide +kernel
theorem dX12_friendsIn_3 : decode cX12_friendsIn 3 = .ok (.istore_n 3, 1) := by decide +kernel
theorem dX12_friendsIn_4 : decode cX12_friendsIn 4 = .ok (.iload_n 3, 1) := by decide +kernel
theorem dX12_friendsIn_5 : decode cX12_friendsIn 5 = .ok (.aload_n 0, 1) := by decide +kernel
theorem dX12_friendsIn_6 : decode cX12_friendsIn 6 = .ok (.getfield 267, 3) := by decide +kernel
theorem dX12_friendsIn_9 : decode cX12_friendsIn 9 = .ok (.if_icmp .ge 56, 3) := by decide +kernel
theorem dX12_friendsIn_12 : decode cX12_friendsIn 12 = .ok (.iload_n 2, 1) := by decide +kernel
theorem dX12_friendsIn_13 : decode cX12_friendsIn 13 = .ok (.aload_n 0, 1) := by decide +kernel
theorem dX12_friendsIn_14 : decode cX12_friendsIn 14 = .ok (.getfield 48, 3) := by decide +kernel
theorem dX12_friendsIn_17 : decode cX12_friendsIn 17 = .ok (.iload_n 1, 1) := by decide +kernel
theorem dX12_friendsIn_18 : decode cX12_friendsIn 18 = .ok (.iconst 2, 1) := by decide +kernel
theorem dX12_friendsIn_19 : decode cX12_friendsIn 19 = .ok (.iadd, 1) := by decide +kernel
theorem dX12_friendsIn_20 : decode cX12_friendsIn 20 = .ok (.aload_n 0, 1) := by decide +kernel
theorem dX12_friendsIn_21 : decode cX12_friendsIn 21 = .ok (.getfield 16, 3) := by decide +kernel
theorem dX12_friendsIn_24 : decode cX12_friendsIn 24 = .ok (.iconst 2, 1) := by decide +kernel
theorem dX12_friendsIn_25 : decode cX12_friendsIn 25 = .ok (.iload_n 3, 1) := by decide +kernel
theorem dX12_friendsIn_26 : decode cX12_friendsIn 26 = .ok (.imul, 1) := by decide +kernel
theorem dX12_friendsIn_27 : decode cX12_friendsIn 27 = .ok (.iaload, 1) := by decide +kernel
theorem dX12_friendsIn_28 : decode cX12_friendsIn 28 = .ok (.iadd, 1) := by decide +kernel
theorem dX12_friendsIn_29 : decode cX12_friendsIn 29 = .ok (.iaload, 1) := by decide +kernel
theorem dX12_friendsIn_30 : decode cX12_friendsIn 30 = .ok (.aload_n 0, 1) := by decide +kernel
theorem dX12_friendsIn_31 : decode cX12_friendsIn 31 = .ok (.getfield 48, 3) := by decide +kernel
theorem dX12_friendsIn_34 : decode cX12_friendsIn 34 = .ok (.iload_n 1, 1) := by decide +kernel
theorem dX12_friendsIn_35 : decode cX12_friendsIn 35 = .ok (.iconst 2, 1) := by decide +kernel
theorem dX12_friendsIn_36 : decode cX12_friendsIn 36 = .ok (.iadd, 1) := by decide +kernel
theorem dX12_friendsIn_37 : decode cX12_friendsIn 37 = .ok (.aload_n 0, 1) := by decide +kernel
theorem dX12_friendsIn_38 : decode cX12_friendsIn 38 = .ok (.getfield 16, 3) := by decide +kernel
theorem dX12_friendsIn_41 : decode cX12_friendsIn 41 = .ok (.iconst 2, 1) := by decide +kernel
theorem dX12_friendsIn_42 : decode cX12_friendsIn 42 = .ok (.iload_n 3, 1) := by decide +kernel
theorem dX12_friendsIn_43 : decode cX12_friendsIn 43 = .ok (.imul, 1) := by decide +kernel
theorem dX12_friendsIn_44 : decode cX12_friendsIn 44 = .ok (.iconst 1, 1) := by decide +kernel
theorem dX12_friendsIn_45 : decode cX12_friendsIn 45 = .ok (.iadd, 1) := by decide +kernel
theorem dX12_friendsIn_46 : decode cX12_friendsIn 46 = .ok (.iaload, 1) := by decide +kernel
theorem dX12_friendsIn_47 : decode cX12_friendsIn 47 = .ok (.iadd, 1) := by decide +kernel
theorem dX12_friendsIn_48 : decode cX12_friendsIn 48 = .ok (.iaload, 1) := by decide +kernel
theorem dX12_friendsIn_49 : decode cX12_friendsIn 49 = .ok (.if_icmp .ne 7, 3) := by decide +kernel
theorem dX12_friendsIn_52 : decode cX12_friendsIn 52 = .ok (.iconst 1, 1) := by decide +kernel
theorem dX12_friendsIn_53 : decode cX12_friendsIn 53 = .ok (.goto 4, 3) := by decide +kernel
theorem dX12_friendsIn_56 : decode cX12_friendsIn 56 = .ok (.iconst 0, 1) := by decide +kernel
theorem dX12_friendsIn_57 : decode cX12_friendsIn 57 = .ok (.iadd, 1) := by decide +kernel
theorem dX12_friendsIn_58 : decode cX12_friendsIn 58 = .ok (.istore_n 2, 1) := by decide +kernel
theorem dX12_friendsIn_59 : decode cX12_friendsIn 59 = .ok (.iinc 3 1, 3) := by decide +kernel
theorem dX12_friendsIn_62 : decode cX12_friendsIn 62 = .ok (.goto (-58), 3) := by decide +kernel
theorem dX12_friendsIn_65 : decode cX12_friendsIn 65 = .ok (.iload_n 2, 1) := by decide +kernel
theorem dX12_friendsIn_66 : decode cX12_friendsIn 66 = .ok (.ireturn, 1) := by decide +kernel
theorem dX12_stairs_0 : decode cX12_stairs 0 = .ok (.aload_n 0, 1) := by decide +kernel
theorem dX12_stairs_1 : decode cX12_stairs 1 = .ok (.iload_n 1, 1) := by decide +kernel
theorem dX12_stairs_2 : decode cX12_stairs 2 = .ok (.invokevirtual 343, 3) := by decide +kernel
theorem dX12_stairs_5 : decode cX12_stairs 5 = .ok (.iconst 1, 1) := by decide +kernel
theorem dX12_stairs_6 : decode cX12_stairs 6 = .ok (.istore_n 2, 1) := by decide +kernel
theorem dX12_stairs_7 : decode cX12_stairs 7 = .ok (.iconst 0, 1) := by decide +kernel
theorem dX12_stairs_8 : decode cX12_stairs 8 = .ok (.istore_n 3, 1) := by decide +kernel
theorem dX12_stairs_9 : decode cX12_stairs 9 = .ok (.iload_n 3, 1) := by decide +kernel
theorem dX12_stairs_10 : decode cX12_stairs 10 = .ok (.aload_n 0, 1) := by decide +kernel
theorem dX12_stairs_11 : decode cX12_stairs 11 = .ok (.getfield 48, 3) := by decide +kernel
theorem dX12_stairs_14 : decode cX12_stairs 14 = .ok (.iload_n 1, 1) := by decide +kernel
theorem dX12_stairs_15 : decode cX12_stairs 15 = .ok (.iconst 1, 1) := by decide +kernel
theorem dX12_stairs_16 : decode cX12_stairs 16 = .ok (.iadd, 1) := by decide +kernel
theorem dX12_stairs_17 : decode cX12_stairs 17 = .ok (.iaload, 1) := by decide +kernel
theorem dX12_stairs_18 : decode cX12_stairs 18 = .ok (.if_icmp .ge 38, 3) := by decide +kernel
theorem dX12_stairs_21 : decode cX12_stairs 21 = .ok (.iload_n 2, 1) := by decide +kernel
theorem dX12_stairs_22 : decode cX12_stairs 22 = .ok (.ifCond .eq 26, 3) := by decide +kernel
theorem dX12_stairs_25 : decode cX12_stairs 25 = .ok (.aload_n 0, 1) := by decide +kernel
theorem dX12_stairs_26 : decode cX12_stairs 26 = .ok (.getfield 63, 3) := by decide +kernel
theorem dX12_stairs_29 : decode cX12_stairs 29 = .ok (.iload_n 3, 1) := by decide +kernel
theorem dX12_stairs_30 : decode cX12_stairs 30 = .ok (.iaload, 1) := by decide +kernel
theorem dX12_stairs_31 : decode cX12_stairs 31 = .ok (.aload_n 0, 1) := by decide +kernel
theorem dX12_stairs_32 : decode cX12_stairs 32 = .ok (.getfield 48, 3) := by decide +kernel
theorem dX12_stairs_35 : decode cX12_stairs 35 = .ok (.iload_n 1, 1) := by decide +kernel
theorem dX12_stairs_36 : decode cX12_stairs 36 = .ok (.iconst 1, 1) := by decide +kernel
theorem dX12_stairs_37 : decode cX12_stairs 37 = .ok (.iadd, 1) := by decide +kernel
theorem dX12_stairs_38 : decode cX12_stairs 38 = .ok (.iaload, 1) := by decide +kernel
theorem dX12_stairs_39 : decode cX12_stairs 39 = .ok (.iload_n 3, 1) := by decide +kernel
theorem dX12_stairs_40 : decode cX12_stairs 40 = .ok (.isub, 1) := by decide +kernel
theorem dX12_stairs_41 : decode cX12_stairs 41 = .ok (.if_icmp .ne 7, 3) := by decide +kernel
theorem dX12_stairs_44 : decode cX12_stairs 44 = .ok (.iconst 1, 1) := by decide +kernel
theorem dX12_stairs_45 : decode cX12_stairs 45 = .ok (.goto 4, 3) := by decide +kernel
theorem dX12_stairs_48 : decode cX12_stairs 48 = .ok (.iconst 0, 1) := by decide +kernel
theorem dX12_stairs_49 : decode cX12_stairs 49 = .ok (.istore_n 2, 1) := by decide +kernel
theorem dX12_stairs_50 : decode cX12_stairs 50 = .ok (.iinc 3 1, 3) := by decide +kernel
theorem dX12_stairs_53 : decode cX12_stairs 53 = .ok (.goto (-44), 3) := by decide +kernel
theorem dX12_stairs_56 : decode cX12_stairs 56 = .ok (.iload_n 2, 1) := by decide +kernel
theorem dX12_stairs_57 : decode cX12_stairs 57 = .ok (.ifCond .eq 7, 3) := by decide +kernel
theorem dX12_stairs_60 : decode cX12_stairs 60 = .ok (.iconst 1, 1) := by decide +kernel
theorem dX12_stairs_61 : decode cX12_stairs 61 = .ok (.goto 4, 3) := by decide +kernel
theorem dX12_stairs_64 : decode cX12_stairs 64 = .ok (.iconst 0, 1) := by decide +kernel
theorem dX12_stairs_65 : decode cX12_stairs 65 = .ok (.ireturn, 1) := by decide +kernel
theorem dX12_pasts_0 : decode cX12_pasts 0 = .ok (.aload_n 0, 1) := by decide +kernel
theorem dX12_pasts_1 : decode cX12_pasts 1 = .ok (.getfield 264, 3) := by decide +kernel
theorem dX12_pasts_4 : decode cX12_pasts 4 = .ok (.ifCond .ne 5, 3) := by decide +kernel
theorem dX12_pasts_7 : decode cX12_pasts 7 = .ok (.iconst 1, 1) := by decide +kernel
theorem dX12_pasts_8 : decode cX12_pasts 8 = .ok (.ireturn, 1) := by decide +kernel
theorem dX12_pasts_9 : decode cX12_pasts 9 = .ok (.aload_n 0, 1) := by decide +kernel
theorem dX12_pasts_10 : decode cX12_pasts 10 = .ok (.iconst 0, 1) := by decide +kernel
theorem dX12_pasts_11 : decode cX12_pasts 11 = .ok (.invokevirtual 343, 3) := by decide +kernel
theorem dX12_pasts_14 : decode cX12_pasts 14 = .ok (.iconst 0, 1) := by decide +kernel
theorem dX12_pasts_15 : decode cX12_pasts 15 = .ok (.istore_n 1, 1) := by decide +kernel
theorem dX12_pasts_16 : decode cX12_pasts 16 = .ok (.iconst 0, 1) := by decide +kernel
theorem dX12_pasts_17 : decode cX12_pasts 17 = .ok (.istore_n 2, 1) := by decide +kernel
theorem dX12_pasts_18 : decode cX12_pasts 18 = .ok (.iload_n 2, 1) := by decide +kernel
theorem dX12_pasts_19 : decode cX12_pasts 19 = .ok (.aload_n 0, 1) := by decide +kernel
theorem dX12_pasts_20 : decode cX12_pasts 20 = .ok (.getfield 48, 3) := by decide +kernel
theorem dX12_pasts_23 : decode cX12_pasts 23 = .ok (.iconst 1, 1) := by decide +kernel
theorem dX12_pasts_24 : decode cX12_pasts 24 = .ok (.iaload, 1) := by decide +kernel
theorem dX12_pasts_25 : decode cX12_pasts 25 = .ok (.if_icmp .ge 55, 3) := by decide +kernel
theorem dX12_pasts_28 : decode cX12_pasts 28 = .ok (.iload_n 1, 1) := by decide +kernel
theorem dX12_pasts_29 : decode cX12_pasts 29 = .ok (.iload_n 2, 1) := by decide +kernel
theorem dX12_pasts_30 : decode cX12_pasts 30 = .ok (.ifCond .eq 20, 3) := by decide +kernel
theorem dX12_pasts_33 : decode cX12_pasts 33 = .ok (.aload_n 0, 1) := by decide +kernel
theorem dX12_pasts_34 : decode cX12_pasts 34 = .ok (.getfield 63, 3) := by decide +kernel
theorem dX12_pasts_37 : decode cX12_pasts 37 = .ok (.iload_n 2, 1) := by decide +kernel
theorem dX12_pasts_38 : decode cX12_pasts 38 = .ok (.iaload, 1) := by decide +kernel
theorem dX12_pasts_39 : decode cX12_pasts 39 = .ok (.aload_n 0, 1) := by decide +kernel
theorem dX12_pasts_40 : decode cX12_pasts 40 = .ok (.getfield 63, 3) := by decide +kernel
theorem dX12_pasts_43 : decode cX12_pasts 43 = .ok (.iload_n 2, 1) := by decide +kernel
theorem dX12_pasts_44 : decode cX12_pasts 44 = .ok (.iconst 1, 1) := by decide +kernel
theorem dX12_pasts_45 : decode cX12_pasts 45 = .ok (.isub, 1) := by decide +kernel
theorem dX12_pasts_46 : decode cX12_pasts 46 = .ok (.iaload, 1) := by decide +kernel
theorem dX12_pasts_47 : decode cX12_pasts 47 = .ok (.if_icmp .eq 24, 3) := by decide +kernel
theorem dX12_pasts_50 : decode cX12_pasts 50 = .ok (.aload_n 0, 1) := by decide +kernel
theorem dX12_pasts_51 : decode cX12_pasts 51 = .ok (.getfield 63, 3) := by decide +kernel
theorem dX12_pasts_54 : decode cX12_pasts 54 = .ok (.iload_n 2, 1) := by decide +kernel
theorem dX12_pasts_55 : decode cX12_pasts 55 = .ok (.iaload, 1) := by decide +kernel
theorem dX12_pasts_56 : decode cX12_pasts 56 = .ok (.aload_n 0, 1) := by decide +kernel
theorem dX12_pasts_57 : decode cX12_pasts 57 = .ok (.getfield 48, 3) := by decide +kernel
theorem dX12_pasts_60 : decode cX12_pasts 60 = .ok (.iconst 1, 1) := by decide +kernel
theorem dX12_pasts_61 : decode cX12_pasts 61 = .ok (.iaload, 1) := by decide +kernel
theorem dX12_pasts_62 : decode cX12_pasts 62 = .ok (.iconst 1, 1) := by decide +kernel
theorem dX12_pasts_63 : decode cX12_pasts 63 = .ok (.isub, 1) := by decide +kernel
theorem dX12_pasts_64 : decode cX12_pasts 64 = .ok (.if_icmp .lt 7, 3) := by decide +kernel
theorem dX12_pasts_67 : decode cX12_pasts 67 = .ok (.iconst 1, 1) := by decide +kernel
theorem dX12_pasts_68 : decode cX12_pasts 68 = .ok (.goto 4, 3) := by decide +kernel
theorem dX12_pasts_71 : decode cX12_pasts 71 = .ok (.iconst 0, 1) := by decide +kernel
theorem dX12_pasts_72 : decode cX12_pasts 72 = .ok (.iadd, 1) := by decide +kernel
theorem dX12_pasts_73 : decode cX12_pasts 73 = .ok (.istore_n 1, 1) := by decide +kernel
theorem dX12_pasts_74 : decode cX12_pasts 74 = .ok (.iinc 2 1, 3) := by decide +kernel
theorem dX12_pasts_77 : decode cX12_pasts 77 = .ok (.goto (-59), 3) := by decide +kernel
theorem dX12_pasts_80 : decode cX12_pasts 80 = .ok (.iload_n 1, 1) := by decide +kernel
theorem dX12_pasts_81 : decode cX12_pasts 81 = .ok (.ireturn, 1) := by decide +kernel
theorem dX12_toldOnes_0 : decode cX12_toldOnes 0 = .ok (.iconst (-1), 1) := by decide +kernel
theorem dX12_toldOnes_1 : decode cX12_toldOnes 1 = .ok (.istore_n 1, 1) := by decide +kernel
theorem dX12_toldOnes_2 : decode cX12_toldOnes 2 = .ok (.iconst 0, 1) := by decide +kernel
theorem dX12_toldOnes_3 : decode cX12_toldOnes 3 = .ok (.istore_n 2, 1) := by decide +kernel
theorem dX12_toldOnes_4 : decode cX12_toldOnes 4 = .ok (.iload_n 2, 1) := by decide +kernel
theorem dX12_toldOnes_5 : decode cX12_toldOnes 5 = .ok (.iconst 1, 1) := by decide +kernel
theorem dX12_toldOnes_6 : decode cX12_toldOnes 6 = .ok (.aload_n 0, 1) := by decide +kernel
theorem dX12_toldOnes_7 : decode cX12_toldOnes 7 = .ok (.getfield 264, 3) := by decide +kernel
theorem dX12_toldOnes_10 : decode cX12_toldOnes 10 = .ok (.ishl, 1) := by decide +kernel
theorem dX12_toldOnes_11 : decode cX12_toldOnes 11 = .ok (.if_icmp .ge 100, 3) := by decide +kernel
theorem dX12_toldOnes_14 : decode cX12_toldOnes 14 = .ok (.iload_n 1, 1) := by decide +kernel
theorem dX12_toldOnes_15 : decode cX12_toldOnes 15 = .ok (.iconst (-1), 1) := by decide +kernel
theorem dX12_toldOnes_16 : decode cX12_toldOnes 16 = .ok (.if_icmp .eq 17, 3) := by decide +kernel
theorem dX12_toldOnes_19 : decode cX12_toldOnes 19 = .ok (.iload_n 2, 1) := by decide +kernel
theorem dX12_toldOnes_20 : decode cX12_toldOnes 20 = .ok (.invokestatic 291, 3) := by decide +kernel
theorem dX12_toldOnes_23 : decode cX12_toldOnes 23 = .ok (.iload_n 1, 1) := by decide +kernel
theorem dX12_toldOnes_24 : decode cX12_toldOnes 24 = .ok (.invokestatic 291, 3) := by decide +kernel
theorem dX12_toldOnes_27 : decode cX12_toldOnes 27 = .ok (.if_icmp .lt 6, 3) := by decide +kernel
theorem dX12_toldOnes_30 : decode cX12_toldOnes 30 = .ok (.goto 75, 3) := by decide +kernel
theorem dX12_toldOnes_33 : decode cX12_toldOnes 33 = .ok (.iconst 1, 1) := by decide +kernel
theorem dX12_toldOnes_34 : decode cX12_toldOnes 34 = .ok (.istore_n 3, 1) := by decide +kernel
theorem dX12_toldOnes_35 : decode cX12_toldOnes 35 = .ok (.iconst 0, 1) := by decide +kernel
theorem dX12_toldOnes_36 : decode cX12_toldOnes 36 = .ok (.istore 4, 2) := by decide +kernel
theorem dX12_toldOnes_38 : decode cX12_toldOnes 38 = .ok (.iload 4, 2) := by decide +kernel
theorem dX12_toldOnes_40 : decode cX12_toldOnes 40 = .ok (.aload_n 0, 1) := by decide +kernel
theorem dX12_toldOnes_41 : decode cX12_toldOnes 41 = .ok (.getfield 267, 3) := by decide +kernel
theorem dX12_toldOnes_44 : decode cX12_toldOnes 44 = .ok (.if_icmp .ge 55, 3) := by decide +kernel
theorem dX12_toldOnes_47 : decode cX12_toldOnes 47 = .ok (.iload_n 3, 1) := by decide +kernel
theorem dX12_toldOnes_48 : decode cX12_toldOnes 48 = .ok (.ifCond .eq 51, 3) := by decide +kernel
theorem dX12_toldOnes_51 : decode cX12_toldOnes 51 = .ok (.iload_n 2, 1) := by decide +kernel
theorem dX12_toldOnes_52 : decode cX12_toldOnes 52 = .ok (.aload_n 0, 1) := by decide +kernel
theorem dX12_toldOnes_53 : decode cX12_toldOnes 53 = .ok (.getfield 16, 3) := by decide +kernel
theorem dX12_toldOnes_56 : decode cX12_toldOnes 56 = .ok (.iconst 2, 1) := by decide +kernel
theorem dX12_toldOnes_57 : decode cX12_toldOnes 57 = .ok (.iload 4, 2) := by decide +kernel
theorem dX12_toldOnes_59 : decode cX12_toldOnes 59 = .ok (.imul, 1) := by decide +kernel
theorem dX12_toldOnes_60 : decode cX12_toldOnes 60 = .ok (.iaload, 1) := by decide +kernel
theorem dX12_toldOnes_61 : decode cX12_toldOnes 61 = .ok (.ishr, 1) := by decide +kernel
theorem dX12_toldOnes_62 : decode cX12_toldOnes 62 = .ok (.iconst 1, 1) := by decide +kernel
theorem dX12_toldOnes_63 : decode cX12_toldOnes 63 = .ok (.iand, 1) := by decide +kernel
theorem dX12_toldOnes_64 : decode cX12_toldOnes 64 = .ok (.iconst 1, 1) := by decide +kernel
theorem dX12_toldOnes_65 : decode cX12_toldOnes 65 = .ok (.if_icmp .eq 22, 3) := by decide +kernel
theorem dX12_toldOnes_68 : decode cX12_toldOnes 68 = .ok (.iload_n 2, 1) := by decide +kernel
theorem dX12_toldOnes_69 : decode cX12_toldOnes 69 = .ok (.aload_n 0, 1) := by decide +kernel
theorem dX12_toldOnes_70 : decode cX12_toldOnes 70 = .ok (.getfield 16, 3) := by decide +kernel
theorem dX12_toldOnes_73 : decode cX12_toldOnes 73 = .ok (.iconst 2, 1) := by decide +kernel
theorem dX12_toldOnes_74 : decode cX12_toldOnes 74 = .ok (.iload 4, 2) := by decide +kernel
theorem dX12_toldOnes_76 : decode cX12_toldOnes 76 = .ok (.imul, 1) := by decide +kernel
theorem dX12_toldOnes_77 : decode cX12_toldOnes 77 = .ok (.iconst 1, 1) := by decide +kernel
theorem dX12_toldOnes_78 : decode cX12_toldOnes 78 = .ok (.iadd, 1) := by decide +kernel
theorem dX12_toldOnes_79 : decode cX12_toldOnes 79 = .ok (.iaload, 1) := by decide +kernel
theorem dX12_toldOnes_80 : decode cX12_toldOnes 80 = .ok (.ishr, 1) := by decide +kernel
theorem dX12_toldOnes_81 : decode cX12_toldOnes 81 = .ok (.iconst 1, 1) := by decide +kernel
theorem dX12_toldOnes_82 : decode cX12_toldOnes 82 = .ok (.iand, 1) := by decide +kernel
theorem dX12_toldOnes_83 : decode cX12_toldOnes 83 = .ok (.iconst 1, 1) := by decide +kernel
theorem dX12_toldOnes_84 : decode cX12_toldOnes 84 = .ok (.if_icmp .ne 7, 3) := by decide +kernel
theorem dX12_toldOnes_87 : decode cX12_toldOnes 87 = .ok (.iconst 1, 1) := by decide +kernel
theorem dX12_toldOnes_88 : decode cX12_toldOnes 88 = .ok (.goto 4, 3) := by decide +kernel
theorem dX12_toldOnes_91 : decode cX12_toldOnes 91 = .ok (.iconst 0, 1) := by decide +kernel
theorem dX12_toldOnes_92 : decode cX12_toldOnes 92 = .ok (.istore_n 3, 1) := by decide +kernel
theorem dX12_toldOnes_93 : decode cX12_toldOnes 93 = .ok (.iinc 4 1, 3) := by decide +kernel
theorem dX12_toldOnes_96 : decode cX12_toldOnes 96 = .ok (.goto (-58), 3) := by decide +kernel
theorem dX12_toldOnes_99 : decode cX12_toldOnes 99 = .ok (.iload_n 3, 1) := by decide +kernel
theorem dX12_toldOnes_100 : decode cX12_toldOnes 100 = .ok (.ifCond .eq 5, 3) := by decide +kernel
theorem dX12_toldOnes_103 : decode cX12_toldOnes 103 = .ok (.iload_n 2, 1) := by decide +kernel
theorem dX12_toldOnes_104 : decode cX12_toldOnes 104 = .ok (.istore_n 1, 1) := by decide +kernel
theorem dX12_toldOnes_105 : decode cX12_toldOnes 105 = .ok (.iinc 2 1, 3) := by decide +kernel
theorem dX12_toldOnes_108 : decode cX12_toldOnes 108 = .ok (.goto (-104), 3) := by decide +kernel
theorem dX12_toldOnes_111 : decode cX12_toldOnes 111 = .ok (.iload_n 1, 1) := by decide +kernel
theorem dX12_toldOnes_112 : decode cX12_toldOnes 112 = .ok (.ireturn, 1) := by decide +kernel
theorem dX12_greatest_0 : decode cX12_greatest 0 = .ok (.aload_n 0, 1) := by decide +kernel
theorem dX12_greatest_1 : decode cX12_greatest 1 = .ok (.iload_n 1, 1) := by decide +kernel
theorem dX12_greatest_2 : decode cX12_greatest 2 = .ok (.invokevirtual 343, 3) := by decide +kernel
theorem dX12_greatest_5 : decode cX12_greatest 5 = .ok (.aload_n 0, 1) := by decide +kernel
theorem dX12_greatest_6 : decode cX12_greatest 6 = .ok (.getfield 63, 3) := by decide +kernel
theorem dX12_greatest_9 : decode cX12_greatest 9 = .ok (.iconst 0, 1) := by decide +kernel
theorem dX12_greatest_10 : decode cX12_greatest 10 = .ok (.iaload, 1) := by decide +kernel
theorem dX12_greatest_11 : decode cX12_greatest 11 = .ok (.ireturn, 1) := by decide +kernel
theorem dX12_count_0 : decode cX12_count 0 = .ok (.aload_n 0, 1) := by decide +kernel
theorem dX12_count_1 : decode cX12_count 1 = .ok (.iconst 0, 1) := by decide +kernel
theorem dX12_count_2 : decode cX12_count 2 = .ok (.putfield 96, 3) := by decide +kernel
theorem dX12_count_5 : decode cX12_count 5 = .ok (.aload_n 0, 1) := by decide +kernel
theorem dX12_count_6 : decode cX12_count 6 = .ok (.iload_n 1, 1) := by decide +kernel
theorem dX12_count_7 : decode cX12_count 7 = .ok (.iconst 0, 1) := by decide +kernel
theorem dX12_count_8 : decode cX12_count 8 = .ok (.bipush 16, 2) := by decide +kernel
theorem dX12_count_10 : decode cX12_count 10 = .ok (.invokestatic 346, 3) := by decide +kernel
theorem dX12_count_13 : decode cX12_count 13 = .ok (.iconst 1, 1) := by decide +kernel
theorem dX12_count_14 : decode cX12_count 14 = .ok (.invokevirtual 257, 3) := by decide +kernel
theorem dX12_count_17 : decode cX12_count 17 = .ok (.ifCond .ne 5, 3) := by decide +kernel
theorem dX12_count_20 : decode cX12_count 20 = .ok (.iconst 0, 1) := by decide +kernel
theorem dX12_count_21 : decode cX12_count 21 = .ok (.ireturn, 1) := by decide +kernel
theorem dX12_count_22 : decode cX12_count 22 = .ok (.iload_n 1, 1) := by decide +kernel
theorem dX12_count_23 : decode cX12_count 23 = .ok (.tableswitch 155 0 13 #[69, 74, 81, 88, 94, 100, 106, 111, 124, 129, 135, 140, 145, 150], 69) := by decide +kernel
theorem dX12_count_92 : decode cX12_count 92 = .ok (.aload_n 0, 1) := by decide +kernel
theorem dX12_count_93 : decode cX12_count 93 = .ok (.getfield 264, 3) := by decide +kernel
theorem dX12_count_96 : decode cX12_count 96 = .ok (.ireturn, 1) := by decide +kernel
theorem dX12_count_97 : decode cX12_count 97 = .ok (.aload_n 0, 1) := by decide +kernel
theorem dX12_count_98 : decode cX12_count 98 = .ok (.getfield 48, 3) := by decide +kernel
theorem dX12_count_101 : decode cX12_count 101 = .ok (.iconst 1, 1) := by decide +kernel
theorem dX12_count_102 : decode cX12_count 102 = .ok (.iaload, 1) := by decide +kernel
theorem dX12_count_103 : decode cX12_count 103 = .ok (.ireturn, 1) := by decide +kernel
theorem dX12_count_104 : decode cX12_count 104 = .ok (.aload_n 0, 1) := by decide +kernel
theorem dX12_count_105 : decode cX12_count 105 = .ok (.getfield 48, 3) := by decide +kernel
theorem dX12_count_108 : decode cX12_count 108 = .ok (.iconst 0, 1) := by decide +kernel
theorem dX12_count_109 : decode cX12_count 109 = .ok (.iaload, 1) := by decide +kernel
theorem dX12_count_110 : decode cX12_count 110 = .ok (.ireturn, 1) := by decide +kernel
theorem dX12_count_111 : decode cX12_count 111 = .ok (.aload_n 0, 1) := by decide +kernel
theorem dX12_count_112 : decode cX12_count 112 = .ok (.iconst 0, 1) := by decide +kernel
theorem dX12_count_113 : decode cX12_count 113 = .ok (.invokevirtual 350, 3) := by decide +kernel
theorem dX12_count_116 : decode cX12_count 116 = .ok (.ireturn, 1) := by decide +kernel
theorem dX12_count_117 : decode cX12_count 117 = .ok (.aload_n 0, 1) := by decide +kernel
theorem dX12_count_118 : decode cX12_count 118 = .ok (.iconst 0, 1) := by decide +kernel
theorem dX12_count_119 : decode cX12_count 119 = .ok (.invokevirtual 353, 3) := by decide +kernel
theorem dX12_count_122 : decode cX12_count 122 = .ok (.ireturn, 1) := by decide +kernel
theorem dX12_count_123 : decode cX12_count 123 = .ok (.aload_n 0, 1) := by decide +kernel
theorem dX12_count_124 : decode cX12_count 124 = .ok (.iconst 0, 1) := by decide +kernel
theorem dX12_count_125 : decode cX12_count 125 = .ok (.invokevirtual 356, 3) := by decide +kernel
theorem dX12_count_128 : decode cX12_count 128 = .ok (.ireturn, 1) := by decide +kernel
theorem dX12_count_129 : decode cX12_count 129 = .ok (.aload_n 0, 1) := by decide +kernel
theorem dX12_count_130 : decode cX12_count 130 = .ok (.invokevirtual 359, 3) := by decide +kernel
theorem dX12_count_133 : decode cX12_count 133 = .ok (.ireturn, 1) := by decide +kernel
theorem dX12_count_134 : decode cX12_count 134 = .ok (.aload_n 0, 1) := by decide +kernel
theorem dX12_count_135 : decode cX12_count 135 = .ok (.invokevirtual 359, 3) := by decide +kernel
theorem dX12_count_138 : decode cX12_count 138 = .ok (.ifCond .ne 7, 3) := by decide +kernel
theorem dX12_count_141 : decode cX12_count 141 = .ok (.iconst 1, 1) := by decide +kernel
theorem dX12_count_142 : decode cX12_count 142 = .ok (.goto 4, 3) := by decide +kernel
theorem dX12_count_145 : decode cX12_count 145 = .ok (.iconst 0, 1) := by decide +kernel
theorem dX12_count_146 : decode cX12_count 146 = .ok (.ireturn, 1) := by decide +kernel
theorem dX12_count_147 : decode cX12_count 147 = .ok (.aload_n 0, 1) := by decide +kernel
theorem dX12_count_148 : decode cX12_count 148 = .ok (.getfield 267, 3) := by decide +kernel
theorem dX12_count_151 : decode cX12_count 151 = .ok (.ireturn, 1) := by decide +kernel
theorem dX12_count_152 : decode cX12_count 152 = .ok (.aload_n 0, 1) := by decide +kernel
theorem dX12_count_153 : decode cX12_count 153 = .ok (.iconst 0, 1) := by decide +kernel
theorem dX12_count_154 : decode cX12_count 154 = .ok (.invokevirtual 362, 3) := by decide +kernel
theorem dX12_count_157 : decode cX12_count 157 = .ok (.ireturn, 1) := by decide +kernel
theorem dX12_count_158 : decode cX12_count 158 = .ok (.aload_n 0, 1) := by decide +kernel
theorem dX12_count_159 : decode cX12_count 159 = .ok (.invokevirtual 365, 3) := by decide +kernel
theorem dX12_count_162 : decode cX12_count 162 = .ok (.ireturn, 1) := by decide +kernel
theorem dX12_count_163 : decode cX12_count 163 = .ok (.aload_n 0, 1) := by decide +kernel
theorem dX12_count_164 : decode cX12_count 164 = .ok (.getfield 274, 3) := by decide +kernel
theorem dX12_count_167 : decode cX12_count 167 = .ok (.ireturn, 1) := by decide +kernel
theorem dX12_count_168 : decode cX12_count 168 = .ok (.aload_n 0, 1) := by decide +kernel
theorem dX12_count_169 : decode cX12_count 169 = .ok (.getfield 277, 3) := by decide +kernel
theorem dX12_count_172 : decode cX12_count 172 = .ok (.ireturn, 1) := by decide +kernel
theorem dX12_count_173 : decode cX12_count 173 = .ok (.aload_n 0, 1) := by decide +kernel
theorem dX12_count_174 : decode cX12_count 174 = .ok (.getfield 99, 3) := by decide +kernel
theorem dX12_count_177 : decode cX12_count 177 = .ok (.ireturn, 1) := by decide +kernel
theorem dX12_count_178 : decode cX12_count 178 = .ok (.aload_n 0, 1) := by decide +kernel
theorem dX12_count_179 : decode cX12_count 179 = .ok (.getfield 29, 3) := by decide +kernel
theorem dX12_count_182 : decode cX12_count 182 = .ok (.iload_n 1, 1) := by decide +kernel
theorem dX12_count_183 : decode cX12_count 183 = .ok (.bipush 14, 2) := by decide +kernel
theorem dX12_count_185 : decode cX12_count 185 = .ok (.isub, 1) := by decide +kernel
theorem dX12_count_186 : decode cX12_count 186 = .ok (.iaload, 1) := by decide +kernel
theorem dX12_count_187 : decode cX12_count 187 = .ok (.ireturn, 1) := by decide +kernel
theorem dX12_isPerson_0 : decode cX12_isPerson 0 = .ok (.aload_n 0, 1) := by decide +kernel
theorem dX12_isPerson_1 : decode cX12_isPerson 1 = .ok (.iload_n 1, 1) := by decide +kernel
theorem dX12_isPerson_2 : decode cX12_isPerson 2 = .ok (.ifCond .lt 15, 3) := by decide +kernel
theorem dX12_isPerson_5 : decode cX12_isPerson 5 = .ok (.iload_n 1, 1) := by decide +kernel
theorem dX12_isPerson_6 : decode cX12_isPerson 6 = .ok (.aload_n 0, 1) := by decide +kernel
theorem dX12_isPerson_7 : decode cX12_isPerson 7 = .ok (.getfield 264, 3) := by decide +kernel
theorem dX12_isPerson_10 : decode cX12_isPerson 10 = .ok (.if_icmp .ge 7, 3) := by decide +kernel
theorem dX12_isPerson_13 : decode cX12_isPerson 13 = .ok (.iconst 1, 1) := by decide +kernel
theorem dX12_isPerson_14 : decode cX12_isPerson 14 = .ok (.goto 4, 3) := by decide +kernel
theorem dX12_isPerson_17 : decode cX12_isPerson 17 = .ok (.iconst 0, 1) := by decide +kernel
theorem dX12_isPerson_18 : decode cX12_isPerson 18 = .ok (.iconst 1, 1) := by decide +kernel
theorem dX12_isPerson_19 : decode cX12_isPerson 19 = .ok (.invokevirtual 257, 3) := by decide +kernel
theorem dX12_isPerson_22 : decode cX12_isPerson 22 = .ok (.ireturn, 1) := by decide +kernel
theorem dX12_isHouse_0 : decode cX12_isHouse 0 = .ok (.aload_n 0, 1) := by decide +kernel
theorem dX12_isHouse_1 : decode cX12_isHouse 1 = .ok (.iload_n 1, 1) := by decide +kernel
theorem dX12_isHouse_2 : decode cX12_isHouse 2 = .ok (.ifCond .lt 17, 3) := by decide +kernel
theorem dX12_isHouse_5 : decode cX12_isHouse 5 = .ok (.iload_n 1, 1) := by decide +kernel
theorem dX12_isHouse_6 : decode cX12_isHouse 6 = .ok (.aload_n 0, 1) := by decide +kernel
theorem dX12_isHouse_7 : decode cX12_isHouse 7 = .ok (.getfield 48, 3) := by decide +kernel
theorem dX12_isHouse_10 : decode cX12_isHouse 10 = .ok (.iconst 1, 1) := by decide +kernel
theorem dX12_isHouse_11 : decode cX12_isHouse 11 = .ok (.iaload, 1) := by decide +kernel
theorem dX12_isHouse_12 : decode cX12_isHouse 12 = .ok (.if_icmp .ge 7, 3) := by decide +kernel
theorem dX12_isHouse_15 : decode cX12_isHouse 15 = .ok (.iconst 1, 1) := by decide +kernel
theorem dX12_isHouse_16 : decode cX12_isHouse 16 = .ok (.goto 4, 3) := by decide +kernel
theorem dX12_isHouse_19 : decode cX12_isHouse 19 = .ok (.iconst 0, 1) := by decide +kernel
theorem dX12_isHouse_20 : decode cX12_isHouse 20 = .ok (.iconst 1, 1) := by decide +kernel
theorem dX12_isHouse_21 : decode cX12_isHouse 21 = .ok (.invokevirtual 257, 3) := by decide +kernel
theorem dX12_isHouse_24 : decode cX12_isHouse 24 = .ok (.ireturn, 1) := by decide +kernel
theorem dX12_isWhat_0 : decode cX12_isWhat 0 = .ok (.aload_n 0, 1) := by decide +kernel
theorem dX12_isWhat_1 : decode cX12_isWhat 1 = .ok (.iload_n 1, 1) := by decide +kernel
theorem dX12_isWhat_2 : decode cX12_isWhat 2 = .ok (.iconst 0, 1) := by decide +kernel
theorem dX12_isWhat_3 : decode cX12_isWhat 3 = .ok (.iload_n 2, 1) := by decide +kernel
theorem dX12_isWhat_4 : decode cX12_isWhat 4 = .ok (.invokestatic 346, 3) := by decide +kernel
theorem dX12_isWhat_7 : decode cX12_isWhat 7 = .ok (.iconst 1, 1) := by decide +kernel
theorem dX12_isWhat_8 : decode cX12_isWhat 8 = .ok (.invokevirtual 257, 3) := by decide +kernel
theorem dX12_isWhat_11 : decode cX12_isWhat 11 = .ok (.ireturn, 1) := by decide +kernel
theorem dX12_isSoon_0 : decode cX12_isSoon 0 = .ok (.aload_n 0, 1) := by decide +kernel
theorem dX12_isSoon_1 : decode cX12_isSoon 1 = .ok (.iload_n 1, 1) := by decide +kernel
theorem dX12_isSoon_2 : decode cX12_isSoon 2 = .ok (.iload_n 2, 1) := by decide +kernel
theorem dX12_isSoon_3 : decode cX12_isSoon 3 = .ok (.bipush 100, 2) := by decide +kernel
theorem dX12_isSoon_5 : decode cX12_isSoon 5 = .ok (.invokestatic 346, 3) := by decide +kernel
theorem dX12_isSoon_8 : decode cX12_isSoon 8 = .ok (.iload_n 3, 1) := by decide +kernel
theorem dX12_isSoon_9 : decode cX12_isSoon 9 = .ok (.invokevirtual 257, 3) := by decide +kernel
theorem dX12_isSoon_12 : decode cX12_isSoon 12 = .ok (.ireturn, 1) := by decide +kernel
theorem dX12_friendsOf_0 : decode cX12_friendsOf 0 = .ok (.iconst 0, 1) := by decide +kernel
theorem dX12_friendsOf_1 : decode cX12_friendsOf 1 = .ok (.istore_n 2, 1) := by decide +kernel
theorem dX12_friendsOf_2 : decode cX12_friendsOf 2 = .ok (.iconst 0, 1) := by decide +kernel
theorem dX12_friendsOf_3 : decode cX12_friendsOf 3 = .ok (.istore_n 3, 1) := by decide +kernel
theorem dX12_friendsOf_4 : decode cX12_friendsOf 4 = .ok (.iload_n 3, 1) := by decide +kernel
theorem dX12_friendsOf_5 : decode cX12_friendsOf 5 = .ok (.aload_n 0, 1) := by decide +kernel
theorem dX12_friendsOf_6 : decode cX12_friendsOf 6 = .ok (.getfield 267, 3) := by decide +kernel
theorem dX12_friendsOf_9 : decode cX12_friendsOf 9 = .ok (.if_icmp .ge 71, 3) := by decide +kernel
theorem dX12_friendsOf_12 : decode cX12_friendsOf 12 = .ok (.iload_n 2, 1) := by decide +kernel
theorem dX12_friendsOf_13 : decode cX12_friendsOf 13 = .ok (.aload_n 0, 1) := by decide +kernel
theorem dX12_friendsOf_14 : decode cX12_friendsOf 14 = .ok (.getfield 16, 3) := by decide +kernel
theorem dX12_friendsOf_17 : decode cX12_friendsOf 17 = .ok (.iconst 2, 1) := by decide +kernel
theorem dX12_friendsOf_18 : decode cX12_friendsOf 18 = .ok (.iload_n 3, 1) := by decide +kernel
theorem dX12_friendsOf_19 : decode cX12_friendsOf 19 = .ok (.imul, 1) := by decide +kernel
theorem dX12_friendsOf_20 : decode cX12_friendsOf 20 = .ok (.iaload, 1) := by decide +kernel
theorem dX12_friendsOf_21 : decode cX12_friendsOf 21 = .ok (.iload_n 1, 1) := by decide +kernel
theorem dX12_friendsOf_22 : decode cX12_friendsOf 22 = .ok (.if_icmp .ne 18, 3) := by decide +kernel
theorem dX12_friendsOf_25 : decode cX12_friendsOf 25 = .ok (.iconst 1, 1) := by decide +kernel
theorem dX12_friendsOf_26 : decode cX12_friendsOf 26 = .ok (.aload_n 0, 1) := by decide +kernel
theorem dX12_friendsOf_27 : decode cX12_friendsOf 27 = .ok (.getfield 16, 3) := by decide +kernel
theorem dX12_friendsOf_30 : decode cX12_friendsOf 30 = .ok (.iconst 2, 1) := by decide +kernel
theorem dX12_friendsOf_31 : decode cX12_friendsOf 31 = .ok (.iload_n 3, 1) := by decide +kernel
theorem dX12_friendsOf_32 : decode cX12_friendsOf 32 = .ok (.imul, 1) := by decide +kernel
theorem dX12_friendsOf_33 : decode cX12_friendsOf 33 = .ok (.iconst 1, 1) := by decide +kernel
theorem dX12_friendsOf_34 : decode cX12_friendsOf 34 = .ok (.iadd, 1) := by decide +kernel
theorem dX12_friendsOf_35 : decode cX12_friendsOf 35 = .ok (.iaload, 1) := by decide +kernel
theorem dX12_friendsOf_36 : decode cX12_friendsOf 36 = .ok (.ishl, 1) := by decide +kernel
theorem dX12_friendsOf_37 : decode cX12_friendsOf 37 = .ok (.goto 4, 3) := by decide +kernel
theorem dX12_friendsOf_40 : decode cX12_friendsOf 40 = .ok (.iconst 0, 1) := by decide +kernel
theorem dX12_friendsOf_41 : decode cX12_friendsOf 41 = .ok (.ior, 1) := by decide +kernel
theorem dX12_friendsOf_42 : decode cX12_friendsOf 42 = .ok (.istore_n 2, 1) := by decide +kernel
theorem dX12_friendsOf_43 : decode cX12_friendsOf 43 = .ok (.iload_n 2, 1) := by decide +kernel
theorem dX12_friendsOf_44 : decode cX12_friendsOf 44 = .ok (.aload_n 0, 1) := by decide +kernel
theorem dX12_friendsOf_45 : decode cX12_friendsOf 45 = .ok (.getfield 16, 3) := by decide +kernel
theorem dX12_friendsOf_48 : decode cX12_friendsOf 48 = .ok (.iconst 2, 1) := by decide +kernel
theorem dX12_friendsOf_49 : decode cX12_friendsOf 49 = .ok (.iload_n 3, 1) := by decide +kernel
theorem dX12_friendsOf_50 : decode cX12_friendsOf 50 = .ok (.imul, 1) := by decide +kernel
theorem dX12_friendsOf_51 : decode cX12_friendsOf 51 = .ok (.iconst 1, 1) := by decide +kernel
theorem dX12_friendsOf_52 : decode cX12_friendsOf 52 = .ok (.iadd, 1) := by decide +kernel
theorem dX12_friendsOf_53 : decode cX12_friendsOf 53 = .ok (.iaload, 1) := by decide +kernel
theorem dX12_friendsOf_54 : decode cX12_friendsOf 54 = .ok (.iload_n 1, 1) := by decide +kernel
theorem dX12_friendsOf_55 : decode cX12_friendsOf 55 = .ok (.if_icmp .ne 16, 3) := by decide +kernel
theorem dX12_friendsOf_58 : decode cX12_friendsOf 58 = .ok (.iconst 1, 1) := by decide +kernel
theorem dX12_friendsOf_59 : decode cX12_friendsOf 59 = .ok (.aload_n 0, 1) := by decide +kernel
theorem dX12_friendsOf_60 : decode cX12_friendsOf 60 = .ok (.getfield 16, 3) := by decide +kernel
theorem dX12_friendsOf_63 : decode cX12_friendsOf 63 = .ok (.iconst 2, 1) := by decide +kernel
theorem dX12_friendsOf_64 : decode cX12_friendsOf 64 = .ok (.iload_n 3, 1) := by decide +kernel
theorem dX12_friendsOf_65 : decode cX12_friendsOf 65 = .ok (.imul, 1) := by decide +kernel
theorem dX12_friendsOf_66 : decode cX12_friendsOf 66 = .ok (.iaload, 1) := by decide +kernel
theorem dX12_friendsOf_67 : decode cX12_friendsOf 67 = .ok (.ishl, 1) := by decide +kernel
theorem dX12_friendsOf_68 : decode cX12_friendsOf 68 = .ok (.goto 4, 3) := by decide +kernel
theorem dX12_friendsOf_71 : decode cX12_friendsOf 71 = .ok (.iconst 0, 1) := by decide +kernel
theorem dX12_friendsOf_72 : decode cX12_friendsOf 72 = .ok (.ior, 1) := by decide +kernel
theorem dX12_friendsOf_73 : decode cX12_friendsOf 73 = .ok (.istore_n 2, 1) := by decide +kernel
theorem dX12_friendsOf_74 : decode cX12_friendsOf 74 = .ok (.iinc 3 1, 3) := by decide +kernel
theorem dX12_friendsOf_77 : decode cX12_friendsOf 77 = .ok (.goto (-73), 3) := by decide +kernel
theorem dX12_friendsOf_80 : decode cX12_friendsOf 80 = .ok (.iload_n 2, 1) := by decide +kernel
theorem dX12_friendsOf_81 : decode cX12_friendsOf 81 = .ok (.ireturn, 1) := by decide +kernel
theorem dX12_withOne_0 : decode cX12_withOne 0 = .ok (.aload_n 0, 1) := by decide +kernel
theorem dX12_withOne_1 : decode cX12_withOne 1 = .ok (.iload_n 1, 1) := by decide +kernel
theorem dX12_withOne_2 : decode cX12_withOne 2 = .ok (.aload_n 0, 1) := by decide +kernel
theorem dX12_withOne_3 : decode cX12_withOne 3 = .ok (.getfield 48, 3) := by decide +kernel
theorem dX12_withOne_6 : decode cX12_withOne 6 = .ok (.iload_n 1, 1) := by decide +kernel
theorem dX12_withOne_7 : decode cX12_withOne 7 = .ok (.iconst 2, 1) := by decide +kernel
theorem dX12_withOne_8 : decode cX12_withOne 8 = .ok (.iadd, 1) := by decide +kernel
theorem dX12_withOne_9 : decode cX12_withOne 9 = .ok (.iload_n 2, 1) := by decide +kernel
theorem dX12_withOne_10 : decode cX12_withOne 10 = .ok (.iadd, 1) := by decide +kernel
theorem dX12_withOne_11 : decode cX12_withOne 11 = .ok (.iaload, 1) := by decide +kernel
theorem dX12_withOne_12 : decode cX12_withOne 12 = .ok (.invokevirtual 288, 3) := by decide +kernel
theorem dX12_withOne_15 : decode cX12_withOne 15 = .ok (.iconst 1, 1) := by decide +kernel
theorem dX12_withOne_16 : decode cX12_withOne 16 = .ok (.iload_n 2, 1) := by decide +kernel
theorem dX12_withOne_17 : decode cX12_withOne 17 = .ok (.ishl, 1) := by decide +kernel
theorem dX12_withOne_18 : decode cX12_withOne 18 = .ok (.iconst (-1), 1) := by decide +kernel
theorem dX12_withOne_19 : decode cX12_withOne 19 = .ok (.ixor, 1) := by decide +kernel
theorem dX12_withOne_20 : decode cX12_withOne 20 = .ok (.iand, 1) := by decide +kernel
theorem dX12_withOne_21 : decode cX12_withOne 21 = .ok (.ireturn, 1) := by decide +kernel
theorem dX12_person_0 : decode cX12_person 0 = .ok (.aload_n 0, 1) := by decide +kernel
theorem dX12_person_1 : decode cX12_person 1 = .ok (.iconst 0, 1) := by decide +kernel
theorem dX12_person_2 : decode cX12_person 2 = .ok (.putfield 96, 3) := by decide +kernel
theorem dX12_person_5 : decode cX12_person 5 = .ok (.aload_n 0, 1) := by decide +kernel
theorem dX12_person_6 : decode cX12_person 6 = .ok (.iload_n 1, 1) := by decide +kernel
theorem dX12_person_7 : decode cX12_person 7 = .ok (.invokevirtual 368, 3) := by decide +kernel
theorem dX12_person_10 : decode cX12_person 10 = .ok (.ifCond .eq 13, 3) := by decide +kernel
theorem dX12_person_13 : decode cX12_person 13 = .ok (.aload_n 0, 1) := by decide +kernel
theorem dX12_person_14 : decode cX12_person 14 = .ok (.iload_n 2, 1) := by decide +kernel
theorem dX12_person_15 : decode cX12_person 15 = .ok (.bipush 8, 2) := by decide +kernel
theorem dX12_person_17 : decode cX12_person 17 = .ok (.invokevirtual 371, 3) := by decide +kernel
theorem dX12_person_20 : decode cX12_person 20 = .ok (.ifCond .ne 5, 3) := by decide +kernel
theorem dX12_person_23 : decode cX12_person 23 = .ok (.iconst 0, 1) := by decide +kernel
theorem dX12_person_24 : decode cX12_person 24 = .ok (.ireturn, 1) := by decide +kernel
theorem dX12_person_25 : decode cX12_person 25 = .ok (.iload_n 2, 1) := by decide +kernel
theorem dX12_person_26 : decode cX12_person 26 = .ok (.tableswitch 131 0 7 #[46, 55, 65, 75, 85, 95, 102, 108], 46) := by decide +kernel
theorem dX12_person_72 : decode cX12_person 72 = .ok (.aload_n 0, 1) := by decide +kernel
theorem dX12_person_73 : decode cX12_person 73 = .ok (.getfield 48, 3) := by decide +kernel
theorem dX12_person_76 : decode cX12_person 76 = .ok (.iconst 2, 1) := by decide +kernel
theorem dX12_person_77 : decode cX12_person 77 = .ok (.iload_n 1, 1) := by decide +kernel
theorem dX12_person_78 : decode cX12_person 78 = .ok (.iadd, 1) := by decide +kernel
theorem dX12_person_79 : decode cX12_person 79 = .ok (.iaload, 1) := by decide +kernel
theorem dX12_person_80 : decode cX12_person 80 = .ok (.ireturn, 1) := by decide +kernel
theorem dX12_person_81 : decode cX12_person 81 = .ok (.aload_n 0, 1) := by decide +kernel
theorem dX12_person_82 : decode cX12_person 82 = .ok (.getfield 48, 3) := by decide +kernel
theorem dX12_person_85 : decode cX12_person 85 = .ok (.bipush 14, 2) := by decide +kernel
theorem dX12_person_87 : decode cX12_person 87 = .ok (.iload_n 1, 1) := by decide +kernel
theorem dX12_person_88 : decode cX12_person 88 = .ok (.iadd, 1) := by decide +kernel
theorem dX12_person_89 : decode cX12_person 89 = .ok (.iaload, 1) := by decide +kernel
theorem dX12_person_90 : decode cX12_person 90 = .ok (.ireturn, 1) := by decide +kernel
theorem dX12_person_91 : decode cX12_person 91 = .ok (.aload_n 0, 1) := by decide +kernel
theorem dX12_person_92 : decode cX12_person 92 = .ok (.getfield 48, 3) := by decide +kernel
theorem dX12_person_95 : decode cX12_person 95 = .ok (.bipush 50, 2) := by decide +kernel
theorem dX12_person_97 : decode cX12_person 97 = .ok (.iload_n 1, 1) := by decide +kernel
theorem dX12_person_98 : decode cX12_person 98 = .ok (.iadd, 1) := by decide +kernel
theorem dX12_person_99 : decode cX12_person 99 = .ok (.iaload, 1) := by decide +kernel
theorem dX12_person_100 : decode cX12_person 100 = .ok (.ireturn, 1) := by decide +kernel
theorem dX12_person_101 : decode cX12_person 101 = .ok (.aload_n 0, 1) := by decide +kernel
theorem dX12_person_102 : decode cX12_person 102 = .ok (.getfield 48, 3) := by decide +kernel
theorem dX12_person_105 : decode cX12_person 105 = .ok (.bipush 38, 2) := by decide +kernel
theorem dX12_person_107 : decode cX12_person 107 = .ok (.iload_n 1, 1) := by decide +kernel
theorem dX12_person_108 : decode cX12_person 108 = .ok (.iadd, 1) := by decide +kernel
theorem dX12_person_109 : decode cX12_person 109 = .ok (.iaload, 1) := by decide +kernel
theorem dX12_person_110 : decode cX12_person 110 = .ok (.ireturn, 1) := by decide +kernel
theorem dX12_person_111 : decode cX12_person 111 = .ok (.aload_n 0, 1) := by decide +kernel
theorem dX12_person_112 : decode cX12_person 112 = .ok (.getfield 48, 3) := by decide +kernel
theorem dX12_person_115 : decode cX12_person 115 = .ok (.bipush 26, 2) := by decide +kernel
theorem dX12_person_117 : decode cX12_person 117 = .ok (.iload_n 1, 1) := by decide +kernel
theorem dX12_person_118 : decode cX12_person 118 = .ok (.iadd, 1) := by decide +kernel
theorem dX12_person_119 : decode cX12_person 119 = .ok (.iaload, 1) := by decide +kernel
theorem dX12_person_120 : decode cX12_person 120 = .ok (.ireturn, 1) := by decide +kernel
theorem dX12_person_121 : decode cX12_person 121 = .ok (.aload_n 0, 1) := by decide +kernel
theorem dX12_person_122 : decode cX12_person 122 = .ok (.iconst 0, 1) := by decide +kernel
theorem dX12_person_123 : decode cX12_person 123 = .ok (.iload_n 1, 1) := by decide +kernel
theorem dX12_person_124 : decode cX12_person 124 = .ok (.invokevirtual 374, 3) := by decide +kernel
theorem dX12_person_127 : decode cX12_person 127 = .ok (.ireturn, 1) := by decide +kernel
theorem dX12_person_128 : decode cX12_person 128 = .ok (.aload_n 0, 1) := by decide +kernel
theorem dX12_person_129 : decode cX12_person 129 = .ok (.iload_n 1, 1) := by decide +kernel
theorem dX12_person_130 : decode cX12_person 130 = .ok (.invokevirtual 377, 3) := by decide +kernel
theorem dX12_person_133 : decode cX12_person 133 = .ok (.ireturn, 1) := by decide +kernel
theorem dX12_person_134 : decode cX12_person 134 = .ok (.aload_n 0, 1) := by decide +kernel
theorem dX12_person_135 : decode cX12_person 135 = .ok (.iconst 0, 1) := by decide +kernel
theorem dX12_person_136 : decode cX12_person 136 = .ok (.aload_n 0, 1) := by decide +kernel
theorem dX12_person_137 : decode cX12_person 137 = .ok (.getfield 48, 3) := by decide +kernel
theorem dX12_person_140 : decode cX12_person 140 = .ok (.iconst 2, 1) := by decide +kernel
theorem dX12_person_141 : decode cX12_person 141 = .ok (.iload_n 1, 1) := by decide +kernel
theorem dX12_person_142 : decode cX12_person 142 = .ok (.iadd, 1) := by decide +kernel
theorem dX12_person_143 : decode cX12_person 143 = .ok (.iaload, 1) := by decide +kernel
theorem dX12_person_144 : decode cX12_person 144 = .ok (.invokevirtual 319, 3) := by decide +kernel
theorem dX12_person_147 : decode cX12_person 147 = .ok (.iload_n 1, 1) := by decide +kernel
theorem dX12_person_148 : decode cX12_person 148 = .ok (.if_icmp .ne 7, 3) := by decide +kernel
theorem dX12_person_151 : decode cX12_person 151 = .ok (.iconst 1, 1) := by decide +kernel
theorem dX12_person_152 : decode cX12_person 152 = .ok (.goto 4, 3) := by decide +kernel
theorem dX12_person_155 : decode cX12_person 155 = .ok (.iconst 0, 1) := by decide +kernel
theorem dX12_person_156 : decode cX12_person 156 = .ok (.ireturn, 1) := by decide +kernel
theorem dX12_person_157 : decode cX12_person 157 = .ok (.aload_n 0, 1) := by decide +kernel
theorem dX12_person_158 : decode cX12_person 158 = .ok (.iload_n 1, 1) := by decide +kernel
theorem dX12_person_159 : decode cX12_person 159 = .ok (.invokevirtual 380, 3) := by decide +kernel
theorem dX12_person_162 : decode cX12_person 162 = .ok (.ireturn, 1) := by decide +kernel
theorem dX12_house_0 : decode cX12_house 0 = .ok (.aload_n 0, 1) := by decide +kernel
theorem dX12_house_1 : decode cX12_house 1 = .ok (.iconst 0, 1) := by decide +kernel
theorem dX12_house_2 : decode cX12_house 2 = .ok (.putfield 96, 3) := by decide +kernel
theorem dX12_house_5 : decode cX12_house 5 = .ok (.aload_n 0, 1) := by decide +kernel
theorem dX12_house_6 : decode cX12_house 6 = .ok (.iload_n 1, 1) := by decide +kernel
theorem dX12_house_7 : decode cX12_house 7 = .ok (.invokevirtual 383, 3) := by decide +kernel
theorem dX12_house_10 : decode cX12_house 10 = .ok (.ifCond .eq 13, 3) := by decide +kernel
theorem dX12_house_13 : decode cX12_house 13 = .ok (.aload_n 0, 1) := by decide +kernel
theorem dX12_house_14 : decode cX12_house 14 = .ok (.iload_n 2, 1) := by decide +kernel
theorem dX12_house_15 : decode cX12_house 15 = .ok (.bipush 6, 2) := by decide +kernel
theorem dX12_house_17 : decode cX12_house 17 = .ok (.invokevirtual 371, 3) := by decide +kernel
theorem dX12_house_20 : decode cX12_house 20 = .ok (.ifCond .ne 5, 3) := by decide +kernel
theorem dX12_house_23 : decode cX12_house 23 = .ok (.iconst 0, 1) := by decide +kernel
theorem dX12_house_24 : decode cX12_house 24 = .ok (.ireturn, 1) := by decide +kernel
theorem dX12_house_25 : decode cX12_house 25 = .ok (.iload_n 2, 1) := by decide +kernel
theorem dX12_house_26 : decode cX12_house 26 = .ok (.tableswitch 89 0 5 #[38, 45, 52, 60, 75, 82], 38) := by decide +kernel
theorem dX12_house_64 : decode cX12_house 64 = .ok (.aload_n 0, 1) := by decide +kernel
theorem dX12_house_65 : decode cX12_house 65 = .ok (.iconst 0, 1) := by decide +kernel
theorem dX12_house_66 : decode cX12_house 66 = .ok (.iload_n 1, 1) := by decide +kernel
theorem dX12_house_67 : decode cX12_house 67 = .ok (.invokevirtual 297, 3) := by decide +kernel
theorem dX12_house_70 : decode cX12_house 70 = .ok (.ireturn, 1) := by decide +kernel
theorem dX12_house_71 : decode cX12_house 71 = .ok (.aload_n 0, 1) := by decide +kernel
theorem dX12_house_72 : decode cX12_house 72 = .ok (.iconst 0, 1) := by decide +kernel
theorem dX12_house_73 : decode cX12_house 73 = .ok (.iload_n 1, 1) := by decide +kernel
theorem dX12_house_74 : decode cX12_house 74 = .ok (.invokevirtual 288, 3) := by decide +kernel
theorem dX12_house_77 : decode cX12_house 77 = .ok (.ireturn, 1) := by decide +kernel
theorem dX12_house_78 : decode cX12_house 78 = .ok (.aload_n 0, 1) := by decide +kernel
theorem dX12_house_79 : decode cX12_house 79 = .ok (.iconst 0, 1) := by decide +kernel
theorem dX12_house_80 : decode cX12_house 80 = .ok (.iload_n 1, 1) := by decide +kernel
theorem dX12_house_81 : decode cX12_house 81 = .ok (.iconst 0, 1) := by decide +kernel
theorem dX12_house_82 : decode cX12_house 82 = .ok (.invokevirtual 310, 3) := by decide +kernel
theorem dX12_house_85 : decode cX12_house 85 = .ok (.ireturn, 1) := by decide +kernel
theorem dX12_house_86 : decode cX12_house 86 = .ok (.aload_n 0, 1) := by decide +kernel
theorem dX12_house_87 : decode cX12_house 87 = .ok (.iconst 0, 1) := by decide +kernel
theorem dX12_house_88 : decode cX12_house 88 = .ok (.iload_n 1, 1) := by decide +kernel
theorem dX12_house_89 : decode cX12_house 89 = .ok (.aload_n 0, 1) := by decide +kernel
theorem dX12_house_90 : decode cX12_house 90 = .ok (.iconst 0, 1) := by decide +kernel
theorem dX12_house_91 : decode cX12_house 91 = .ok (.iload_n 1, 1) := by decide +kernel
theorem dX12_house_92 : decode cX12_house 92 = .ok (.invokevirtual 297, 3) := by decide +kernel
theorem dX12_house_95 : decode cX12_house 95 = .ok (.iconst 1, 1) := by decide +kernel
theorem dX12_house_96 : decode cX12_house 96 = .ok (.isub, 1) := by decide +kernel
theorem dX12_house_97 : decode cX12_house 97 = .ok (.invokevirtual 310, 3) := by decide +kernel
theorem dX12_house_100 : decode cX12_house 100 = .ok (.ireturn, 1) := by decide +kernel
theorem dX12_house_101 : decode cX12_house 101 = .ok (.aload_n 0, 1) := by decide +kernel
theorem dX12_house_102 : decode cX12_house 102 = .ok (.iconst 0, 1) := by decide +kernel
theorem dX12_house_103 : decode cX12_house 103 = .ok (.iload_n 1, 1) := by decide +kernel
theorem dX12_house_104 : decode cX12_house 104 = .ok (.invokevirtual 300, 3) := by decide +kernel
theorem dX12_house_107 : decode cX12_house 107 = .ok (.ireturn, 1) := by decide +kernel
theorem dX12_house_108 : decode cX12_house 108 = .ok (.aload_n 0, 1) := by decide +kernel
theorem dX12_house_109 : decode cX12_house 109 = .ok (.iconst 0, 1) := by decide +kernel
theorem dX12_house_110 : decode cX12_house 110 = .ok (.iload_n 1, 1) := by decide +kernel
theorem dX12_house_111 : decode cX12_house 111 = .ok (.invokevirtual 319, 3) := by decide +kernel
theorem dX12_house_114 : decode cX12_house 114 = .ok (.ireturn, 1) := by decide +kernel
theorem dX12_house_115 : decode cX12_house 115 = .ok (.aload_n 0, 1) := by decide +kernel
theorem dX12_house_116 : decode cX12_house 116 = .ok (.getfield 48, 3) := by decide +kernel
theorem dX12_house_119 : decode cX12_house 119 = .ok (.bipush 62, 2) := by decide +kernel
theorem dX12_house_121 : decode cX12_house 121 = .ok (.iload_n 1, 1) := by decide +kernel
theorem dX12_house_122 : decode cX12_house 122 = .ok (.iadd, 1) := by decide +kernel
theorem dX12_house_123 : decode cX12_house 123 = .ok (.iaload, 1) := by decide +kernel
theorem dX12_house_124 : decode cX12_house 124 = .ok (.ireturn, 1) := by decide +kernel
theorem dX12_evenings_0 : decode cX12_evenings 0 = .ok (.aload_n 0, 1) := by decide +kernel
theorem dX12_evenings_1 : decode cX12_evenings 1 = .ok (.iconst 0, 1) := by decide +kernel
theorem dX12_evenings_2 : decode cX12_evenings 2 = .ok (.putfield 96, 3) := by decide +kernel
theorem dX12_evenings_5 : decode cX12_evenings 5 = .ok (.iload_n 1, 1) := by decide +kernel
theorem dX12_evenings_6 : decode cX12_evenings 6 = .ok (.iconst 1, 1) := by decide +kernel
theorem dX12_evenings_7 : decode cX12_evenings 7 = .ok (.bipush 20, 2) := by decide +kernel
theorem dX12_evenings_9 : decode cX12_evenings 9 = .ok (.invokestatic 346, 3) := by decide +kernel
theorem dX12_evenings_12 : decode cX12_evenings 12 = .ok (.ifCond .eq 17, 3) := by decide +kernel
theorem dX12_evenings_15 : decode cX12_evenings 15 = .ok (.aload_n 0, 1) := by decide +kernel
theorem dX12_evenings_16 : decode cX12_evenings 16 = .ok (.getfield 48, 3) := by decide +kernel
theorem dX12_evenings_19 : decode cX12_evenings 19 = .ok (.iconst 0, 1) := by decide +kernel
theorem dX12_evenings_20 : decode cX12_evenings 20 = .ok (.iaload, 1) := by decide +kernel
theorem dX12_evenings_21 : decode cX12_evenings 21 = .ok (.iload_n 1, 1) := by decide +kernel
theorem dX12_evenings_22 : decode cX12_evenings 22 = .ok (.iadd, 1) := by decide +kernel
theorem dX12_evenings_23 : decode cX12_evenings 23 = .ok (.sipush 9999, 3) := by decide +kernel
theorem dX12_evenings_26 : decode cX12_evenings 26 = .ok (.if_icmp .le 9, 3) := by decide +kernel
theorem dX12_evenings_29 : decode cX12_evenings 29 = .ok (.aload_n 0, 1) := by decide +kernel
theorem dX12_evenings_30 : decode cX12_evenings 30 = .ok (.iconst 1, 1) := by decide +kernel
theorem dX12_evenings_31 : decode cX12_evenings 31 = .ok (.invokevirtual 386, 3) := by decide +kernel
theorem dX12_evenings_34 : decode cX12_evenings 34 = .ok (.ireturn, 1) := by decide +kernel
theorem dX12_evenings_35 : decode cX12_evenings 35 = .ok (.aload_n 0, 1) := by decide +kernel
theorem dX12_evenings_36 : decode cX12_evenings 36 = .ok (.invokevirtual 389, 3) := by decide +kernel
theorem dX12_evenings_39 : decode cX12_evenings 39 = .ok (.iconst 0, 1) := by decide +kernel
theorem dX12_evenings_40 : decode cX12_evenings 40 = .ok (.istore_n 2, 1) := by decide +kernel
theorem dX12_evenings_41 : decode cX12_evenings 41 = .ok (.iload_n 2, 1) := by decide +kernel
theorem dX12_evenings_42 : decode cX12_evenings 42 = .ok (.iload_n 1, 1) := by decide +kernel
theorem dX12_evenings_43 : decode cX12_evenings 43 = .ok (.if_icmp .ge 14, 3) := by decide +kernel
theorem dX12_evenings_46 : decode cX12_evenings 46 = .ok (.aload_n 0, 1) := by decide +kernel
theorem dX12_evenings_47 : decode cX12_evenings 47 = .ok (.iconst 0, 1) := by decide +kernel
theorem dX12_evenings_48 : decode cX12_evenings 48 = .ok (.invokevirtual 334, 3) := by decide +kernel
theorem dX12_evenings_51 : decode cX12_evenings 51 = .ok (.iinc 2 1, 3) := by decide +kernel
theorem dX12_evenings_54 : decode cX12_evenings 54 = .ok (.goto (-13), 3) := by decide +kernel
theorem dX12_evenings_57 : decode cX12_evenings 57 = .ok (.aload_n 0, 1) := by decide +kernel
theorem dX12_evenings_58 : decode cX12_evenings 58 = .ok (.getfield 48, 3) := by decide +kernel
theorem dX12_evenings_61 : decode cX12_evenings 61 = .ok (.iconst 0, 1) := by decide +kernel
theorem dX12_evenings_62 : decode cX12_evenings 62 = .ok (.iaload, 1) := by decide +kernel
theorem dX12_evenings_63 : decode cX12_evenings 63 = .ok (.ireturn, 1) := by decide +kernel
theorem dX12_moves_0 : decode cX12_moves 0 = .ok (.aload_n 0, 1) := by decide +kernel
theorem dX12_moves_1 : decode cX12_moves 1 = .ok (.iload_n 1, 1) := by decide +kernel
theorem dX12_moves_2 : decode cX12_moves 2 = .ok (.iload_n 3, 1) := by decide +kernel
theorem dX12_moves_3 : decode cX12_moves 3 = .ok (.invokevirtual 297, 3) := by decide +kernel
theorem dX12_moves_6 : decode cX12_moves 6 = .ok (.istore 4, 2) := by decide +kernel
theorem dX12_moves_8 : decode cX12_moves 8 = .ok (.aload_n 0, 1) := by decide +kernel
theorem dX12_moves_9 : decode cX12_moves 9 = .ok (.iload_n 1, 1) := by decide +kernel
theorem dX12_moves_10 : decode cX12_moves 10 = .ok (.iload_n 2, 1) := by decide +kernel
theorem dX12_moves_11 : decode cX12_moves 11 = .ok (.invokevirtual 325, 3) := by decide +kernel
theorem dX12_moves_14 : decode cX12_moves 14 = .ok (.aload_n 0, 1) := by decide +kernel
theorem dX12_moves_15 : decode cX12_moves 15 = .ok (.getfield 48, 3) := by decide +kernel
theorem dX12_moves_18 : decode cX12_moves 18 = .ok (.iload_n 1, 1) := by decide +kernel
theorem dX12_moves_19 : decode cX12_moves 19 = .ok (.iconst 2, 1) := by decide +kernel
theorem dX12_moves_20 : decode cX12_moves 20 = .ok (.iadd, 1) := by decide +kernel
theorem dX12_moves_21 : decode cX12_moves 21 = .ok (.iload_n 2, 1) := by decide +kernel
theorem dX12_moves_22 : decode cX12_moves 22 = .ok (.iadd, 1) := by decide +kernel
theorem dX12_moves_23 : decode cX12_moves 23 = .ok (.iload_n 3, 1) := by decide +kernel
theorem dX12_moves_24 : decode cX12_moves 24 = .ok (.iastore, 1) := by decide +kernel
theorem dX12_moves_25 : decode cX12_moves 25 = .ok (.aload_n 0, 1) := by decide +kernel
theorem dX12_moves_26 : decode cX12_moves 26 = .ok (.getfield 48, 3) := by decide +kernel
theorem dX12_moves_29 : decode cX12_moves 29 = .ok (.iload_n 1, 1) := by decide +kernel
theorem dX12_moves_30 : decode cX12_moves 30 = .ok (.bipush 14, 2) := by decide +kernel
theorem dX12_moves_32 : decode cX12_moves 32 = .ok (.iadd, 1) := by decide +kernel
theorem dX12_moves_33 : decode cX12_moves 33 = .ok (.iload_n 2, 1) := by decide +kernel
theorem dX12_moves_34 : decode cX12_moves 34 = .ok (.iadd, 1) := by decide +kernel
theorem dX12_moves_35 : decode cX12_moves 35 = .ok (.iload 4, 2) := by decide +kernel
theorem dX12_moves_37 : decode cX12_moves 37 = .ok (.iastore, 1) := by decide +kernel
theorem dX12_moves_38 : decode cX12_moves 38 = .ok (.aload_n 0, 1) := by decide +kernel
theorem dX12_moves_39 : decode cX12_moves 39 = .ok (.getfield 48, 3) := by decide +kernel
theorem dX12_moves_42 : decode cX12_moves 42 = .ok (.iload_n 1, 1) := by decide +kernel
theorem dX12_moves_43 : decode cX12_moves 43 = .ok (.bipush 26, 2) := by decide +kernel
theorem dX12_moves_45 : decode cX12_moves 45 = .ok (.iadd, 1) := by decide +kernel
theorem dX12_moves_46 : decode cX12_moves 46 = .ok (.iload_n 2, 1) := by decide +kernel
theorem dX12_moves_47 : decode cX12_moves 47 = .ok (.iadd, 1) := by decide +kernel
theorem dX12_moves_48 : decode cX12_moves 48 = .ok (.iconst 0, 1) := by decide +kernel
theorem dX12_moves_49 : decode cX12_moves 49 = .ok (.iastore, 1) := by decide +kernel
theorem dX12_moves_50 : decode cX12_moves 50 = .ok (.aload_n 0, 1) := by decide +kernel
theorem dX12_moves_51 : decode cX12_moves 51 = .ok (.iload_n 1, 1) := by decide +kernel
theorem dX12_moves_52 : decode cX12_moves 52 = .ok (.invokevirtual 328, 3) := by decide +kernel
theorem dX12_moves_55 : decode cX12_moves 55 = .ok (.return_, 1) := by decide +kernel
theorem dX12_move_0 : decode cX12_move 0 = .ok (.aload_n 0, 1) := by decide +kernel
theorem dX12_move_1 : decode cX12_move 1 = .ok (.iconst 0, 1) := by decide +kernel
theorem dX12_move_2 : decode cX12_move 2 = .ok (.putfield 96, 3) := by decide +kernel
theorem dX12_move_5 : decode cX12_move 5 = .ok (.aload_n 0, 1) := by decide +kernel
theorem dX12_move_6 : decode cX12_move 6 = .ok (.iload_n 1, 1) := by decide +kernel
theorem dX12_move_7 : decode cX12_move 7 = .ok (.invokevirtual 368, 3) := by decide +kernel
theorem dX12_move_10 : decode cX12_move 10 = .ok (.ifCond .eq 11, 3) := by decide +kernel
theorem dX12_move_13 : decode cX12_move 13 = .ok (.aload_n 0, 1) := by decide +kernel
theorem dX12_move_14 : decode cX12_move 14 = .ok (.iload_n 2, 1) := by decide +kernel
theorem dX12_move_15 : decode cX12_move 15 = .ok (.invokevirtual 383, 3) := by decide +kernel
theorem dX12_move_18 : decode cX12_move 18 = .ok (.ifCond .ne 5, 3) := by decide +kernel
theorem dX12_move_21 : decode cX12_move 21 = .ok (.iconst 0, 1) := by decide +kernel
theorem dX12_move_22 : decode cX12_move 22 = .ok (.ireturn, 1) := by decide +kernel
theorem dX12_move_23 : decode cX12_move 23 = .ok (.aload_n 0, 1) := by decide +kernel
theorem dX12_move_24 : decode cX12_move 24 = .ok (.getfield 48, 3) := by decide +kernel
theorem dX12_move_27 : decode cX12_move 27 = .ok (.iconst 2, 1) := by decide +kernel
theorem dX12_move_28 : decode cX12_move 28 = .ok (.iload_n 1, 1) := by decide +kernel
theorem dX12_move_29 : decode cX12_move 29 = .ok (.iadd, 1) := by decide +kernel
theorem dX12_move_30 : decode cX12_move 30 = .ok (.iaload, 1) := by decide +kernel
theorem dX12_move_31 : decode cX12_move 31 = .ok (.istore_n 3, 1) := by decide +kernel
theorem dX12_move_32 : decode cX12_move 32 = .ok (.iload_n 3, 1) := by decide +kernel
theorem dX12_move_33 : decode cX12_move 33 = .ok (.iload_n 2, 1) := by decide +kernel
theorem dX12_move_34 : decode cX12_move 34 = .ok (.if_icmp .ne 9, 3) := by decide +kernel
theorem dX12_move_37 : decode cX12_move 37 = .ok (.aload_n 0, 1) := by decide +kernel
theorem dX12_move_38 : decode cX12_move 38 = .ok (.iconst 1, 1) := by decide +kernel
theorem dX12_move_39 : decode cX12_move 39 = .ok (.invokevirtual 386, 3) := by decide +kernel
theorem dX12_move_42 : decode cX12_move 42 = .ok (.ireturn, 1) := by decide +kernel
theorem dX12_move_43 : decode cX12_move 43 = .ok (.aload_n 0, 1) := by decide +kernel
theorem dX12_move_44 : decode cX12_move 44 = .ok (.invokevirtual 389, 3) := by decide +kernel
theorem dX12_move_47 : decode cX12_move 47 = .ok (.aload_n 0, 1) := by decide +kernel
theorem dX12_move_48 : decode cX12_move 48 = .ok (.iconst 0, 1) := by decide +kernel
theorem dX12_move_49 : decode cX12_move 49 = .ok (.iload_n 1, 1) := by decide +kernel
theorem dX12_move_50 : decode cX12_move 50 = .ok (.iload_n 2, 1) := by decide +kernel
theorem dX12_move_51 : decode cX12_move 51 = .ok (.invokevirtual 392, 3) := by decide +kernel
theorem dX12_move_54 : decode cX12_move 54 = .ok (.iload_n 3, 1) := by decide +kernel
theorem dX12_move_55 : decode cX12_move 55 = .ok (.ireturn, 1) := by decide +kernel
theorem dX12_foundsBy_0 : decode cX12_foundsBy 0 = .ok (.aload_n 0, 1) := by decide +kernel
theorem dX12_foundsBy_1 : decode cX12_foundsBy 1 = .ok (.iload_n 1, 1) := by decide +kernel
theorem dX12_foundsBy_2 : decode cX12_foundsBy 2 = .ok (.iload_n 2, 1) := by decide +kernel
theorem dX12_foundsBy_3 : decode cX12_foundsBy 3 = .ok (.invokevirtual 325, 3) := by decide +kernel
theorem dX12_foundsBy_6 : decode cX12_foundsBy 6 = .ok (.aload_n 0, 1) := by decide +kernel
theorem dX12_foundsBy_7 : decode cX12_foundsBy 7 = .ok (.getfield 48, 3) := by decide +kernel
theorem dX12_foundsBy_10 : decode cX12_foundsBy 10 = .ok (.iload_n 1, 1) := by decide +kernel
theorem dX12_foundsBy_11 : decode cX12_foundsBy 11 = .ok (.iconst 2, 1) := by decide +kernel
theorem dX12_foundsBy_12 : decode cX12_foundsBy 12 = .ok (.iadd, 1) := by decide +kernel
theorem dX12_foundsBy_13 : decode cX12_foundsBy 13 = .ok (.iload_n 2, 1) := by decide +kernel
theorem dX12_foundsBy_14 : decode cX12_foundsBy 14 = .ok (.iadd, 1) := by decide +kernel
theorem dX12_foundsBy_15 : decode cX12_foundsBy 15 = .ok (.aload_n 0, 1) := by decide +kernel
theorem dX12_foundsBy_16 : decode cX12_foundsBy 16 = .ok (.getfield 48, 3) := by decide +kernel
theorem dX12_foundsBy_19 : decode cX12_foundsBy 19 = .ok (.iload_n 1, 1) := by decide +kernel
theorem dX12_foundsBy_20 : decode cX12_foundsBy 20 = .ok (.iconst 1, 1) := by decide +kernel
theorem dX12_foundsBy_21 : decode cX12_foundsBy 21 = .ok (.iadd, 1) := by decide +kernel
theorem dX12_foundsBy_22 : decode cX12_foundsBy 22 = .ok (.iaload, 1) := by decide +kernel
theorem dX12_foundsBy_23 : decode cX12_foundsBy 23 = .ok (.iastore, 1) := by decide +kernel
theorem dX12_foundsBy_24 : decode cX12_foundsBy 24 = .ok (.aload_n 0, 1) := by decide +kernel
theorem dX12_foundsBy_25 : decode cX12_foundsBy 25 = .ok (.getfield 48, 3) := by decide +kernel
theorem dX12_foundsBy_28 : decode cX12_foundsBy 28 = .ok (.iload_n 1, 1) := by decide +kernel
theorem dX12_foundsBy_29 : decode cX12_foundsBy 29 = .ok (.bipush 14, 2) := by decide +kernel
theorem dX12_foundsBy_31 : decode cX12_foundsBy 31 = .ok (.iadd, 1) := by decide +kernel
theorem dX12_foundsBy_32 : decode cX12_foundsBy 32 = .ok (.iload_n 2, 1) := by decide +kernel
theorem dX12_foundsBy_33 : decode cX12_foundsBy 33 = .ok (.iadd, 1) := by decide +kernel
theorem dX12_foundsBy_34 : decode cX12_foundsBy 34 = .ok (.iconst 0, 1) := by decide +kernel
theorem dX12_foundsBy_35 : decode cX12_foundsBy 35 = .ok (.iastore, 1) := by decide +kernel
theorem dX12_foundsBy_36 : decode cX12_foundsBy 36 = .ok (.aload_n 0, 1) := by decide +kernel
theorem dX12_foundsBy_37 : decode cX12_foundsBy 37 = .ok (.getfield 48, 3) := by decide +kernel
theorem dX12_foundsBy_40 : decode cX12_foundsBy 40 = .ok (.iload_n 1, 1) := by decide +kernel
theorem dX12_foundsBy_41 : decode cX12_foundsBy 41 = .ok (.bipush 26, 2) := by decide +kernel
theorem dX12_foundsBy_43 : decode cX12_foundsBy 43 = .ok (.iadd, 1) := by decide +kernel
theorem dX12_foundsBy_44 : decode cX12_foundsBy 44 = .ok (.iload_n 2, 1) := by decide +kernel
theorem dX12_foundsBy_45 : decode cX12_foundsBy 45 = .ok (.iadd, 1) := by decide +kernel
theorem dX12_foundsBy_46 : decode cX12_foundsBy 46 = .ok (.iconst 0, 1) := by decide +kernel
theorem dX12_foundsBy_47 : decode cX12_foundsBy 47 = .ok (.iastore, 1) := by decide +kernel
theorem dX12_foundsBy_48 : decode cX12_foundsBy 48 = .ok (.aload_n 0, 1) := by decide +kernel
theorem dX12_foundsBy_49 : decode cX12_foundsBy 49 = .ok (.iload_n 1, 1) := by decide +kernel
theorem dX12_foundsBy_50 : decode cX12_foundsBy 50 = .ok (.invokevirtual 331, 3) := by decide +kernel
theorem dX12_foundsBy_53 : decode cX12_foundsBy 53 = .ok (.return_, 1) := by decide +kernel
theorem dX12_found_0 : decode cX12_found 0 = .ok (.aload_n 0, 1) := by decide +kernel
theorem dX12_found_1 : decode cX12_found 1 = .ok (.iconst 0, 1) := by decide +kernel
theorem dX12_found_2 : decode cX12_found 2 = .ok (.putfield 96, 3) := by decide +kernel
theorem dX12_found_5 : decode cX12_found 5 = .ok (.aload_n 0, 1) := by decide +kernel
theorem dX12_found_6 : decode cX12_found 6 = .ok (.iload_n 1, 1) := by decide +kernel
theorem dX12_found_7 : decode cX12_found 7 = .ok (.invokevirtual 368, 3) := by decide +kernel
theorem dX12_found_10 : decode cX12_found 10 = .ok (.ifCond .ne 5, 3) := by decide +kernel
theorem dX12_found_13 : decode cX12_found 13 = .ok (.iconst 0, 1) := by decide +kernel
theorem dX12_found_14 : decode cX12_found 14 = .ok (.ireturn, 1) := by decide +kernel
theorem dX12_found_15 : decode cX12_found 15 = .ok (.aload_n 0, 1) := by decide +kernel
theorem dX12_found_16 : decode cX12_found 16 = .ok (.iconst 0, 1) := by decide +kernel
theorem dX12_found_17 : decode cX12_found 17 = .ok (.iload_n 1, 1) := by decide +kernel
theorem dX12_found_18 : decode cX12_found 18 = .ok (.invokevirtual 374, 3) := by decide +kernel
theorem dX12_found_21 : decode cX12_found 21 = .ok (.ifCond .ne 9, 3) := by decide +kernel
theorem dX12_found_24 : decode cX12_found 24 = .ok (.aload_n 0, 1) := by decide +kernel
theorem dX12_found_25 : decode cX12_found 25 = .ok (.iconst 1, 1) := by decide +kernel
theorem dX12_found_26 : decode cX12_found 26 = .ok (.invokevirtual 386, 3) := by decide +kernel
theorem dX12_found_29 : decode cX12_found 29 = .ok (.ireturn, 1) := by decide +kernel
theorem dX12_found_30 : decode cX12_found 30 = .ok (.aload_n 0, 1) := by decide +kernel
theorem dX12_found_31 : decode cX12_found 31 = .ok (.invokevirtual 389, 3) := by decide +kernel
theorem dX12_found_34 : decode cX12_found 34 = .ok (.aload_n 0, 1) := by decide +kernel
theorem dX12_found_35 : decode cX12_found 35 = .ok (.iconst 0, 1) := by decide +kernel
theorem dX12_found_36 : decode cX12_found 36 = .ok (.iload_n 1, 1) := by decide +kernel
theorem dX12_found_37 : decode cX12_found 37 = .ok (.invokevirtual 396, 3) := by decide +kernel
theorem dX12_found_40 : decode cX12_found 40 = .ok (.aload_n 0, 1) := by decide +kernel
theorem dX12_found_41 : decode cX12_found 41 = .ok (.getfield 48, 3) := by decide +kernel
theorem dX12_found_44 : decode cX12_found 44 = .ok (.iconst 1, 1) := by decide +kernel
theorem dX12_found_45 : decode cX12_found 45 = .ok (.iaload, 1) := by decide +kernel
theorem dX12_found_46 : decode cX12_found 46 = .ok (.ireturn, 1) := by decide +kernel
theorem dX12_joins_0 : decode cX12_joins 0 = .ok (.aload_n 0, 1) := by decide +kernel
theorem dX12_joins_1 : decode cX12_joins 1 = .ok (.iload_n 1, 1) := by decide +kernel
theorem dX12_joins_2 : decode cX12_joins 2 = .ok (.iload_n 3, 1) := by decide +kernel
theorem dX12_joins_3 : decode cX12_joins 3 = .ok (.invokevirtual 297, 3) := by decide +kernel
theorem dX12_joins_6 : decode cX12_joins 6 = .ok (.istore 4, 2) := by decide +kernel
theorem dX12_joins_8 : decode cX12_joins 8 = .ok (.iconst 0, 1) := by decide +kernel
theorem dX12_joins_9 : decode cX12_joins 9 = .ok (.istore 5, 2) := by decide +kernel
theorem dX12_joins_11 : decode cX12_joins 11 = .ok (.iload 5, 2) := by decide +kernel
theorem dX12_joins_13 : decode cX12_joins 13 = .ok (.aload_n 0, 1) := by decide +kernel
theorem dX12_joins_14 : decode cX12_joins 14 = .ok (.getfield 264, 3) := by decide +kernel
theorem dX12_joins_17 : decode cX12_joins 17 = .ok (.if_icmp .ge 69, 3) := by decide +kernel
theorem dX12_joins_20 : decode cX12_joins 20 = .ok (.aload_n 0, 1) := by decide +kernel
theorem dX12_joins_21 : decode cX12_joins 21 = .ok (.getfield 48, 3) := by decide +kernel
theorem dX12_joins_24 : decode cX12_joins 24 = .ok (.iload_n 1, 1) := by decide +kernel
theorem dX12_joins_25 : decode cX12_joins 25 = .ok (.iconst 2, 1) := by decide +kernel
theorem dX12_joins_26 : decode cX12_joins 26 = .ok (.iadd, 1) := by decide +kernel
theorem dX12_joins_27 : decode cX12_joins 27 = .ok (.iload 5, 2) := by decide +kernel
theorem dX12_joins_29 : decode cX12_joins 29 = .ok (.iadd, 1) := by decide +kernel
theorem dX12_joins_30 : decode cX12_joins 30 = .ok (.iaload, 1) := by decide +kernel
theorem dX12_joins_31 : decode cX12_joins 31 = .ok (.iload_n 2, 1) := by decide +kernel
theorem dX12_joins_32 : decode cX12_joins 32 = .ok (.if_icmp .eq 6, 3) := by decide +kernel
theorem dX12_joins_35 : decode cX12_joins 35 = .ok (.goto 45, 3) := by decide +kernel
theorem dX12_joins_38 : decode cX12_joins 38 = .ok (.aload_n 0, 1) := by decide +kernel
theorem dX12_joins_39 : decode cX12_joins 39 = .ok (.getfield 48, 3) := by decide +kernel
theorem dX12_joins_42 : decode cX12_joins 42 = .ok (.iload_n 1, 1) := by decide +kernel
theorem dX12_joins_43 : decode cX12_joins 43 = .ok (.iconst 2, 1) := by decide +kernel
theorem dX12_joins_44 : decode cX12_joins 44 = .ok (.iadd, 1) := by decide +kernel
theorem dX12_joins_45 : decode cX12_joins 45 = .ok (.iload 5, 2) := by decide +kernel
theorem dX12_joins_47 : decode cX12_joins 47 = .ok (.iadd, 1) := by decide +kernel
theorem dX12_joins_48 : decode cX12_joins 48 = .ok (.iload_n 3, 1) := by decide +kernel
theorem dX12_joins_49 : decode cX12_joins 49 = .ok (.iastore, 1) := by decide +kernel
theorem dX12_joins_50 : decode cX12_joins 50 = .ok (.aload_n 0, 1) := by decide +kernel
theorem dX12_joins_51 : decode cX12_joins 51 = .ok (.getfield 48, 3) := by decide +kernel
theorem dX12_joins_54 : decode cX12_joins 54 = .ok (.iload_n 1, 1) := by decide +kernel
theorem dX12_joins_55 : decode cX12_joins 55 = .ok (.bipush 14, 2) := by decide +kernel
theorem dX12_joins_57 : decode cX12_joins 57 = .ok (.iadd, 1) := by decide +kernel
theorem dX12_joins_58 : decode cX12_joins 58 = .ok (.iload 5, 2) := by decide +kernel
theorem dX12_joins_60 : decode cX12_joins 60 = .ok (.iadd, 1) := by decide +kernel
theorem dX12_joins_61 : decode cX12_joins 61 = .ok (.dup2, 1) := by decide +kernel
theorem dX12_joins_62 : decode cX12_joins 62 = .ok (.iaload, 1) := by decide +kernel
theorem dX12_joins_63 : decode cX12_joins 63 = .ok (.iload 4, 2) := by decide +kernel
theorem dX12_joins_65 : decode cX12_joins 65 = .ok (.iadd, 1) := by decide +kernel
theorem dX12_joins_66 : decode cX12_joins 66 = .ok (.iastore, 1) := by decide +kernel
theorem dX12_joins_67 : decode cX12_joins 67 = .ok (.aload_n 0, 1) := by decide +kernel
theorem dX12_joins_68 : decode cX12_joins 68 = .ok (.getfield 48, 3) := by decide +kernel
theorem dX12_joins_71 : decode cX12_joins 71 = .ok (.iload_n 1, 1) := by decide +kernel
theorem dX12_joins_72 : decode cX12_joins 72 = .ok (.bipush 26, 2) := by decide +kernel
theorem dX12_joins_74 : decode cX12_joins 74 = .ok (.iadd, 1) := by decide +kernel
theorem dX12_joins_75 : decode cX12_joins 75 = .ok (.iload 5, 2) := by decide +kernel
theorem dX12_joins_77 : decode cX12_joins 77 = .ok (.iadd, 1) := by decide +kernel
theorem dX12_joins_78 : decode cX12_joins 78 = .ok (.iconst 0, 1) := by decide +kernel
theorem dX12_joins_79 : decode cX12_joins 79 = .ok (.iastore, 1) := by decide +kernel
theorem dX12_joins_80 : decode cX12_joins 80 = .ok (.iinc 5 1, 3) := by decide +kernel
theorem dX12_joins_83 : decode cX12_joins 83 = .ok (.goto (-72), 3) := by decide +kernel
theorem dX12_joins_86 : decode cX12_joins 86 = .ok (.aload_n 0, 1) := by decide +kernel
theorem dX12_joins_87 : decode cX12_joins 87 = .ok (.iload_n 1, 1) := by decide +kernel
theorem dX12_joins_88 : decode cX12_joins 88 = .ok (.invokevirtual 328, 3) := by decide +kernel
theorem dX12_joins_91 : decode cX12_joins 91 = .ok (.return_, 1) := by decide +kernel
theorem dX12_join_0 : decode cX12_join 0 = .ok (.aload_n 0, 1) := by decide +kernel
theorem dX12_join_1 : decode cX12_join 1 = .ok (.iconst 0, 1) := by decide +kernel
theorem dX12_join_2 : decode cX12_join 2 = .ok (.putfield 96, 3) := by decide +kernel
theorem dX12_join_5 : decode cX12_join 5 = .ok (.aload_n 0, 1) := by decide +kernel
theorem dX12_join_6 : decode cX12_join 6 = .ok (.iload_n 1, 1) := by decide +kernel
theorem dX12_join_7 : decode cX12_join 7 = .ok (.invokevirtual 383, 3) := by decide +kernel
theorem dX12_join_10 : decode cX12_join 10 = .ok (.ifCond .eq 11, 3) := by decide +kernel
theorem dX12_join_13 : decode cX12_join 13 = .ok (.aload_n 0, 1) := by decide +kernel
theorem dX12_join_14 : decode cX12_join 14 = .ok (.iload_n 2, 1) := by decide +kernel
theorem dX12_join_15 : decode cX12_join 15 = .ok (.invokevirtual 383, 3) := by decide +kernel
theorem dX12_join_18 : decode cX12_join 18 = .ok (.ifCond .ne 5, 3) := by decide +kernel
theorem dX12_join_21 : decode cX12_join 21 = .ok (.iconst 0, 1) := by decide +kernel
theorem dX12_join_22 : decode cX12_join 22 = .ok (.ireturn, 1) := by decide +kernel
theorem dX12_join_23 : decode cX12_join 23 = .ok (.iload_n 1, 1) := by decide +kernel
theorem dX12_join_24 : decode cX12_join 24 = .ok (.iload_n 2, 1) := by decide +kernel
theorem dX12_join_25 : decode cX12_join 25 = .ok (.if_icmp .ne 9, 3) := by decide +kernel
theorem dX12_join_28 : decode cX12_join 28 = .ok (.aload_n 0, 1) := by decide +kernel
theorem dX12_join_29 : decode cX12_join 29 = .ok (.iconst 1, 1) := by decide +kernel
theorem dX12_join_30 : decode cX12_join 30 = .ok (.invokevirtual 386, 3) := by decide +kernel
theorem dX12_join_33 : decode cX12_join 33 = .ok (.ireturn, 1) := by decide +kernel
theorem dX12_join_34 : decode cX12_join 34 = .ok (.aload_n 0, 1) := by decide +kernel
theorem dX12_join_35 : decode cX12_join 35 = .ok (.iconst 0, 1) := by decide +kernel
theorem dX12_join_36 : decode cX12_join 36 = .ok (.iload_n 1, 1) := by decide +kernel
theorem dX12_join_37 : decode cX12_join 37 = .ok (.invokevirtual 297, 3) := by decide +kernel
theorem dX12_join_40 : decode cX12_join 40 = .ok (.aload_n 0, 1) := by decide +kernel
theorem dX12_join_41 : decode cX12_join 41 = .ok (.iconst 0, 1) := by decide +kernel
theorem dX12_join_42 : decode cX12_join 42 = .ok (.iload_n 2, 1) := by decide +kernel
theorem dX12_join_43 : decode cX12_join 43 = .ok (.invokevirtual 297, 3) := by decide +kernel
theorem dX12_join_46 : decode cX12_join 46 = .ok (.iadd, 1) := by decide +kernel
theorem dX12_join_47 : decode cX12_join 47 = .ok (.istore_n 3, 1) := by decide +kernel
theorem dX12_join_48 : decode cX12_join 48 = .ok (.aload_n 0, 1) := by decide +kernel
theorem dX12_join_49 : decode cX12_join 49 = .ok (.invokevirtual 389, 3) := by decide +kernel
theorem dX12_join_52 : decode cX12_join 52 = .ok (.aload_n 0, 1) := by decide +kernel
theorem dX12_join_53 : decode cX12_join 53 = .ok (.iconst 0, 1) := by decide +kernel
theorem dX12_join_54 : decode cX12_join 54 = .ok (.iload_n 1, 1) := by decide +kernel
theorem dX12_join_55 : decode cX12_join 55 = .ok (.iload_n 2, 1) := by decide +kernel
theorem dX12_join_56 : decode cX12_join 56 = .ok (.invokevirtual 399, 3) := by decide +kernel
theorem dX12_join_59 : decode cX12_join 59 = .ok (.iload_n 3, 1) := by decide +kernel
theorem dX12_join_60 : decode cX12_join 60 = .ok (.ireturn, 1) := by decide +kernel
theorem dX12_rank_0 : decode cX12_rank 0 = .ok (.aload_n 0, 1) := by decide +kernel
theorem dX12_rank_1 : decode cX12_rank 1 = .ok (.iconst 0, 1) := by decide +kernel
theorem dX12_rank_2 : decode cX12_rank 2 = .ok (.putfield 96, 3) := by decide +kernel
theorem dX12_rank_5 : decode cX12_rank 5 = .ok (.aload_n 0, 1) := by decide +kernel
theorem dX12_rank_6 : decode cX12_rank 6 = .ok (.iload_n 1, 1) := by decide +kernel
theorem dX12_rank_7 : decode cX12_rank 7 = .ok (.invokevirtual 368, 3) := by decide +kernel
theorem dX12_rank_10 : decode cX12_rank 10 = .ok (.ifCond .ne 5, 3) := by decide +kernel
theorem dX12_rank_13 : decode cX12_rank 13 = .ok (.iconst 0, 1) := by decide +kernel
theorem dX12_rank_14 : decode cX12_rank 14 = .ok (.ireturn, 1) := by decide +kernel
theorem dX12_rank_15 : decode cX12_rank 15 = .ok (.aload_n 0, 1) := by decide +kernel
theorem dX12_rank_16 : decode cX12_rank 16 = .ok (.getfield 48, 3) := by decide +kernel
theorem dX12_rank_19 : decode cX12_rank 19 = .ok (.bipush 50, 2) := by decide +kernel
theorem dX12_rank_21 : decode cX12_rank 21 = .ok (.iload_n 1, 1) := by decide +kernel
theorem dX12_rank_22 : decode cX12_rank 22 = .ok (.iadd, 1) := by decide +kernel
theorem dX12_rank_23 : decode cX12_rank 23 = .ok (.iaload, 1) := by decide +kernel
theorem dX12_rank_24 : decode cX12_rank 24 = .ok (.istore_n 3, 1) := by decide +kernel
theorem dX12_rank_25 : decode cX12_rank 25 = .ok (.iload_n 2, 1) := by decide +kernel
theorem dX12_rank_26 : decode cX12_rank 26 = .ok (.iconst 0, 1) := by decide +kernel
theorem dX12_rank_27 : decode cX12_rank 27 = .ok (.bipush 9, 2) := by decide +kernel
theorem dX12_rank_29 : decode cX12_rank 29 = .ok (.invokestatic 346, 3) := by decide +kernel
theorem dX12_rank_32 : decode cX12_rank 32 = .ok (.ifCond .eq 8, 3) := by decide +kernel
theorem dX12_rank_35 : decode cX12_rank 35 = .ok (.iload_n 3, 1) := by decide +kernel
theorem dX12_rank_36 : decode cX12_rank 36 = .ok (.iload_n 2, 1) := by decide +kernel
theorem dX12_rank_37 : decode cX12_rank 37 = .ok (.if_icmp .ne 9, 3) := by decide +kernel
theorem dX12_rank_40 : decode cX12_rank 40 = .ok (.aload_n 0, 1) := by decide +kernel
theorem dX12_rank_41 : decode cX12_rank 41 = .ok (.iconst 1, 1) := by decide +kernel
theorem dX12_rank_42 : decode cX12_rank 42 = .ok (.invokevirtual 386, 3) := by decide +kernel
theorem dX12_rank_45 : decode cX12_rank 45 = .ok (.ireturn, 1) := by decide +kernel
theorem dX12_rank_46 : decode cX12_rank 46 = .ok (.aload_n 0, 1) := by decide +kernel
theorem dX12_rank_47 : decode cX12_rank 47 = .ok (.invokevirtual 389, 3) := by decide +kernel
theorem dX12_rank_50 : decode cX12_rank 50 = .ok (.aload_n 0, 1) := by decide +kernel
theorem dX12_rank_51 : decode cX12_rank 51 = .ok (.getfield 48, 3) := by decide +kernel
theorem dX12_rank_54 : decode cX12_rank 54 = .ok (.bipush 50, 2) := by decide +kernel
theorem dX12_rank_56 : decode cX12_rank 56 = .ok (.iload_n 1, 1) := by decide +kernel
theorem dX12_rank_57 : decode cX12_rank 57 = .ok (.iadd, 1) := by decide +kernel
theorem dX12_rank_58 : decode cX12_rank 58 = .ok (.iload_n 2, 1) := by decide +kernel
theorem dX12_rank_59 : decode cX12_rank 59 = .ok (.iastore, 1) := by decide +kernel
theorem dX12_rank_60 : decode cX12_rank 60 = .ok (.iload_n 3, 1) := by decide +kernel
theorem dX12_rank_61 : decode cX12_rank 61 = .ok (.ireturn, 1) := by decide +kernel
theorem dX12_then_0 : decode cX12_then 0 = .ok (.aload_n 0, 1) := by decide +kernel
theorem dX12_then_1 : decode cX12_then 1 = .ok (.iconst 0, 1) := by decide +kernel
theorem dX12_then_2 : decode cX12_then 2 = .ok (.putfield 96, 3) := by decide +kernel
theorem dX12_then_5 : decode cX12_then 5 = .ok (.aload_n 0, 1) := by decide +kernel
theorem dX12_then_6 : decode cX12_then 6 = .ok (.iload_n 1, 1) := by decide +kernel
theorem dX12_then_7 : decode cX12_then 7 = .ok (.invokevirtual 368, 3) := by decide +kernel
theorem dX12_then_10 : decode cX12_then 10 = .ok (.ifCond .eq 22, 3) := by decide +kernel
theorem dX12_then_13 : decode cX12_then 13 = .ok (.aload_n 0, 1) := by decide +kernel
theorem dX12_then_14 : decode cX12_then 14 = .ok (.iload_n 3, 1) := by decide +kernel
theorem dX12_then_15 : decode cX12_then 15 = .ok (.iconst 3, 1) := by decide +kernel
theorem dX12_then_16 : decode cX12_then 16 = .ok (.invokevirtual 371, 3) := by decide +kernel
theorem dX12_then_19 : decode cX12_then 19 = .ok (.ifCond .eq 13, 3) := by decide +kernel
theorem dX12_then_22 : decode cX12_then 22 = .ok (.aload_n 0, 1) := by decide +kernel
theorem dX12_then_23 : decode cX12_then 23 = .ok (.iload_n 2, 1) := by decide +kernel
theorem dX12_then_24 : decode cX12_then 24 = .ok (.iconst 0, 1) := by decide +kernel
theorem dX12_then_25 : decode cX12_then 25 = .ok (.iconst 2, 1) := by decide +kernel
theorem dX12_then_26 : decode cX12_then 26 = .ok (.invokevirtual 402, 3) := by decide +kernel
theorem dX12_then_29 : decode cX12_then 29 = .ok (.ifCond .ne 5, 3) := by decide +kernel
theorem dX12_then_32 : decode cX12_then 32 = .ok (.iconst 0, 1) := by decide +kernel
theorem dX12_then_33 : decode cX12_then 33 = .ok (.ireturn, 1) := by decide +kernel
theorem dX12_then_34 : decode cX12_then 34 = .ok (.aload_n 0, 1) := by decide +kernel
theorem dX12_then_35 : decode cX12_then 35 = .ok (.iload_n 2, 1) := by decide +kernel
theorem dX12_then_36 : decode cX12_then 36 = .ok (.invokevirtual 405, 3) := by decide +kernel
theorem dX12_then_39 : decode cX12_then 39 = .ok (.aload_n 0, 1) := by decide +kernel
theorem dX12_then_40 : decode cX12_then 40 = .ok (.getfield 48, 3) := by decide +kernel
theorem dX12_then_43 : decode cX12_then 43 = .ok (.bipush 88, 2) := by decide +kernel
theorem dX12_then_45 : decode cX12_then 45 = .ok (.iload_n 1, 1) := by decide +kernel
theorem dX12_then_46 : decode cX12_then 46 = .ok (.iadd, 1) := by decide +kernel
theorem dX12_then_47 : decode cX12_then 47 = .ok (.iaload, 1) := by decide +kernel
theorem dX12_then_48 : decode cX12_then 48 = .ok (.istore 4, 2) := by decide +kernel
theorem dX12_then_50 : decode cX12_then 50 = .ok (.iload_n 3, 1) := by decide +kernel
theorem dX12_then_51 : decode cX12_then 51 = .ok (.ifCond .ne 8, 3) := by decide +kernel
theorem dX12_then_54 : decode cX12_then 54 = .ok (.iload 4, 2) := by decide +kernel
theorem dX12_then_56 : decode cX12_then 56 = .ok (.goto 45, 3) := by decide +kernel
theorem dX12_then_59 : decode cX12_then 59 = .ok (.iload_n 3, 1) := by decide +kernel
theorem dX12_then_60 : decode cX12_then 60 = .ok (.iconst 1, 1) := by decide +kernel
theorem dX12_then_61 : decode cX12_then 61 = .ok (.if_icmp .ne 15, 3) := by decide +kernel
theorem dX12_then_64 : decode cX12_then 64 = .ok (.aload_n 0, 1) := by decide +kernel
theorem dX12_then_65 : decode cX12_then 65 = .ok (.getfield 48, 3) := by decide +kernel
theorem dX12_then_68 : decode cX12_then 68 = .ok (.bipush 100, 2) := by decide +kernel
theorem dX12_then_70 : decode cX12_then 70 = .ok (.iload_n 1, 1) := by decide +kernel
theorem dX12_then_71 : decode cX12_then 71 = .ok (.iadd, 1) := by decide +kernel
theorem dX12_then_72 : decode cX12_then 72 = .ok (.iaload, 1) := by decide +kernel
theorem dX12_then_73 : decode cX12_then 73 = .ok (.goto 28, 3) := by decide +kernel
theorem dX12_then_76 : decode cX12_then 76 = .ok (.iload_n 3, 1) := by decide +kernel
theorem dX12_then_77 : decode cX12_then 77 = .ok (.iconst 2, 1) := by decide +kernel
theorem dX12_then_78 : decode cX12_then 78 = .ok (.if_icmp .ne 15, 3) := by decide +kernel
theorem dX12_then_81 : decode cX12_then 81 = .ok (.aload_n 0, 1) := by decide +kernel
theorem dX12_then_82 : decode cX12_then 82 = .ok (.getfield 48, 3) := by decide +kernel
theorem dX12_then_85 : decode cX12_then 85 = .ok (.bipush 124, 2) := by decide +kernel
theorem dX12_then_87 : decode cX12_then 87 = .ok (.iload_n 1, 1) := by decide +kernel
theorem dX12_then_88 : decode cX12_then 88 = .ok (.iadd, 1) := by decide +kernel
theorem dX12_then_89 : decode cX12_then 89 = .ok (.iaload, 1) := by decide +kernel
theorem dX12_then_90 : decode cX12_then 90 = .ok (.goto 11, 3) := by decide +kernel
theorem dX12_then_93 : decode cX12_then 93 = .ok (.aload_n 0, 1) := by decide +kernel
theorem dX12_then_94 : decode cX12_then 94 = .ok (.bipush 86, 2) := by decide +kernel
theorem dX12_then_96 : decode cX12_then 96 = .ok (.iload 4, 2) := by decide +kernel
theorem dX12_then_98 : decode cX12_then 98 = .ok (.invokevirtual 297, 3) := by decide +kernel
theorem dX12_then_101 : decode cX12_then 101 = .ok (.ireturn, 1) := by decide +kernel
theorem dX12_size_0 : decode cX12_size 0 = .ok (.aload_n 0, 1) := by decide +kernel
theorem dX12_size_1 : decode cX12_size 1 = .ok (.iconst 0, 1) := by decide +kernel
theorem dX12_size_2 : decode cX12_size 2 = .ok (.putfield 96, 3) := by decide +kernel
theorem dX12_size_5 : decode cX12_size 5 = .ok (.aload_n 0, 1) := by decide +kernel
theorem dX12_size_6 : decode cX12_size 6 = .ok (.iload_n 1, 1) := by decide +kernel
theorem dX12_size_7 : decode cX12_size 7 = .ok (.iconst 0, 1) := by decide +kernel
theorem dX12_size_8 : decode cX12_size 8 = .ok (.bipush 11, 2) := by decide +kernel
theorem dX12_size_10 : decode cX12_size 10 = .ok (.invokestatic 346, 3) := by decide +kernel
theorem dX12_size_13 : decode cX12_size 13 = .ok (.ifCond .eq 17, 3) := by decide +kernel
theorem dX12_size_16 : decode cX12_size 16 = .ok (.iload_n 2, 1) := by decide +kernel
theorem dX12_size_17 : decode cX12_size 17 = .ok (.iconst 0, 1) := by decide +kernel
theorem dX12_size_18 : decode cX12_size 18 = .ok (.bipush 100, 2) := by decide +kernel
theorem dX12_size_20 : decode cX12_size 20 = .ok (.invokestatic 346, 3) := by decide +kernel
theorem dX12_size_23 : decode cX12_size 23 = .ok (.ifCond .eq 7, 3) := by decide +kernel
theorem dX12_size_26 : decode cX12_size 26 = .ok (.iconst 1, 1) := by decide +kernel
theorem dX12_size_27 : decode cX12_size 27 = .ok (.goto 4, 3) := by decide +kernel
theorem dX12_size_30 : decode cX12_size 30 = .ok (.iconst 0, 1) := by decide +kernel
theorem dX12_size_31 : decode cX12_size 31 = .ok (.iconst 1, 1) := by decide +kernel
theorem dX12_size_32 : decode cX12_size 32 = .ok (.invokevirtual 257, 3) := by decide +kernel
theorem dX12_size_35 : decode cX12_size 35 = .ok (.ifCond .ne 5, 3) := by decide +kernel
theorem dX12_size_38 : decode cX12_size 38 = .ok (.iconst 0, 1) := by decide +kernel
theorem dX12_size_39 : decode cX12_size 39 = .ok (.ireturn, 1) := by decide +kernel
theorem dX12_size_40 : decode cX12_size 40 = .ok (.aload_n 0, 1) := by decide +kernel
theorem dX12_size_41 : decode cX12_size 41 = .ok (.iload_n 2, 1) := by decide +kernel
theorem dX12_size_42 : decode cX12_size 42 = .ok (.invokevirtual 405, 3) := by decide +kernel
theorem dX12_size_45 : decode cX12_size 45 = .ok (.aload_n 0, 1) := by decide +kernel
theorem dX12_size_46 : decode cX12_size 46 = .ok (.bipush 86, 2) := by decide +kernel
theorem dX12_size_48 : decode cX12_size 48 = .ok (.invokevirtual 343, 3) := by decide +kernel
theorem dX12_size_51 : decode cX12_size 51 = .ok (.aload_n 0, 1) := by decide +kernel
theorem dX12_size_52 : decode cX12_size 52 = .ok (.getfield 63, 3) := by decide +kernel
theorem dX12_size_55 : decode cX12_size 55 = .ok (.iload_n 1, 1) := by decide +kernel
theorem dX12_size_56 : decode cX12_size 56 = .ok (.iaload, 1) := by decide +kernel
theorem dX12_size_57 : decode cX12_size 57 = .ok (.ifCond .ne 7, 3) := by decide +kernel
theorem dX12_size_60 : decode cX12_size 60 = .ok (.iconst (-1), 1) := by decide +kernel
theorem dX12_size_61 : decode cX12_size 61 = .ok (.goto 9, 3) := by decide +kernel
theorem dX12_size_64 : decode cX12_size 64 = .ok (.aload_n 0, 1) := by decide +kernel
theorem dX12_size_65 : decode cX12_size 65 = .ok (.getfield 63, 3) := by decide +kernel
theorem dX12_size_68 : decode cX12_size 68 = .ok (.iload_n 1, 1) := by decide +kernel
theorem dX12_size_69 : decode cX12_size 69 = .ok (.iaload, 1) := by decide +kernel
theorem dX12_size_70 : decode cX12_size 70 = .ok (.ireturn, 1) := by decide +kernel
theorem dX12_later_0 : decode cX12_later 0 = .ok (.aload_n 0, 1) := by decide +kernel
theorem dX12_later_1 : decode cX12_later 1 = .ok (.iconst 0, 1) := by decide +kernel
theorem dX12_later_2 : decode cX12_later 2 = .ok (.putfield 96, 3) := by decide +kernel
theorem dX12_later_5 : decode cX12_later 5 = .ok (.aload_n 0, 1) := by decide +kernel
theorem dX12_later_6 : decode cX12_later 6 = .ok (.iload_n 2, 1) := by decide +kernel
theorem dX12_later_7 : decode cX12_later 7 = .ok (.iconst 4, 1) := by decide +kernel
theorem dX12_later_8 : decode cX12_later 8 = .ok (.invokevirtual 371, 3) := by decide +kernel
theorem dX12_later_11 : decode cX12_later 11 = .ok (.ifCond .eq 13, 3) := by decide +kernel
theorem dX12_later_14 : decode cX12_later 14 = .ok (.aload_n 0, 1) := by decide +kernel
theorem dX12_later_15 : decode cX12_later 15 = .ok (.iload_n 1, 1) := by decide +kernel
theorem dX12_later_16 : decode cX12_later 16 = .ok (.iconst 0, 1) := by decide +kernel
theorem dX12_later_17 : decode cX12_later 17 = .ok (.iconst 2, 1) := by decide +kernel
theorem dX12_later_18 : decode cX12_later 18 = .ok (.invokevirtual 402, 3) := by decide +kernel
theorem dX12_later_21 : decode cX12_later 21 = .ok (.ifCond .ne 5, 3) := by decide +kernel
theorem dX12_later_24 : decode cX12_later 24 = .ok (.iconst 0, 1) := by decide +kernel
theorem dX12_later_25 : decode cX12_later 25 = .ok (.ireturn, 1) := by decide +kernel
theorem dX12_later_26 : decode cX12_later 26 = .ok (.aload_n 0, 1) := by decide +kernel
theorem dX12_later_27 : decode cX12_later 27 = .ok (.iload_n 1, 1) := by decide +kernel
theorem dX12_later_28 : decode cX12_later 28 = .ok (.invokevirtual 405, 3) := by decide +kernel
theorem dX12_later_31 : decode cX12_later 31 = .ok (.iload_n 2, 1) := by decide +kernel
theorem dX12_later_32 : decode cX12_later 32 = .ok (.tableswitch 61 0 3 #[32, 40, 47, 54], 32) := by decide +kernel
theorem dX12_later_64 : decode cX12_later 64 = .ok (.aload_n 0, 1) := by decide +kernel
theorem dX12_later_65 : decode cX12_later 65 = .ok (.getfield 48, 3) := by decide +kernel
theorem dX12_later_68 : decode cX12_later 68 = .ok (.bipush 87, 2) := by decide +kernel
theorem dX12_later_70 : decode cX12_later 70 = .ok (.iaload, 1) := by decide +kernel
theorem dX12_later_71 : decode cX12_later 71 = .ok (.ireturn, 1) := by decide +kernel
theorem dX12_later_72 : decode cX12_later 72 = .ok (.aload_n 0, 1) := by decide +kernel
theorem dX12_later_73 : decode cX12_later 73 = .ok (.bipush 86, 2) := by decide +kernel
theorem dX12_later_75 : decode cX12_later 75 = .ok (.invokevirtual 350, 3) := by decide +kernel
theorem dX12_later_78 : decode cX12_later 78 = .ok (.ireturn, 1) := by decide +kernel
theorem dX12_later_79 : decode cX12_later 79 = .ok (.aload_n 0, 1) := by decide +kernel
theorem dX12_later_80 : decode cX12_later 80 = .ok (.bipush 86, 2) := by decide +kernel
theorem dX12_later_82 : decode cX12_later 82 = .ok (.invokevirtual 353, 3) := by decide +kernel
theorem dX12_later_85 : decode cX12_later 85 = .ok (.ireturn, 1) := by decide +kernel
theorem dX12_later_86 : decode cX12_later 86 = .ok (.aload_n 0, 1) := by decide +kernel
theorem dX12_later_87 : decode cX12_later 87 = .ok (.bipush 86, 2) := by decide +kernel
theorem dX12_later_89 : decode cX12_later 89 = .ok (.invokevirtual 362, 3) := by decide +kernel
theorem dX12_later_92 : decode cX12_later 92 = .ok (.ireturn, 1) := by decide +kernel
theorem dX12_later_93 : decode cX12_later 93 = .ok (.aload_n 0, 1) := by decide +kernel
theorem dX12_later_94 : decode cX12_later 94 = .ok (.bipush 86, 2) := by decide +kernel
theorem dX12_later_96 : decode cX12_later 96 = .ok (.invokevirtual 356, 3) := by decide +kernel
theorem dX12_later_99 : decode cX12_later 99 = .ok (.ireturn, 1) := by decide +kernel
theorem dX12_areIn_0 : decode cX12_areIn 0 = .ok (.aload_n 0, 1) := by decide +kernel
theorem dX12_areIn_1 : decode cX12_areIn 1 = .ok (.getfield 48, 3) := by decide +kernel
theorem dX12_areIn_4 : decode cX12_areIn 4 = .ok (.bipush 88, 2) := by decide +kernel
theorem dX12_areIn_6 : decode cX12_areIn 6 = .ok (.iload_n 1, 1) := by decide +kernel
theorem dX12_areIn_7 : decode cX12_areIn 7 = .ok (.iadd, 1) := by decide +kernel
theorem dX12_areIn_8 : decode cX12_areIn 8 = .ok (.iaload, 1) := by decide +kernel
theorem dX12_areIn_9 : decode cX12_areIn 9 = .ok (.aload_n 0, 1) := by decide +kernel
theorem dX12_areIn_10 : decode cX12_areIn 10 = .ok (.getfield 48, 3) := by decide +kernel
theorem dX12_areIn_13 : decode cX12_areIn 13 = .ok (.bipush 88, 2) := by decide +kernel
theorem dX12_areIn_15 : decode cX12_areIn 15 = .ok (.iload_n 2, 1) := by decide +kernel
theorem dX12_areIn_16 : decode cX12_areIn 16 = .ok (.iadd, 1) := by decide +kernel
theorem dX12_areIn_17 : decode cX12_areIn 17 = .ok (.iaload, 1) := by decide +kernel
theorem dX12_areIn_18 : decode cX12_areIn 18 = .ok (.if_icmp .ne 7, 3) := by decide +kernel
theorem dX12_areIn_21 : decode cX12_areIn 21 = .ok (.iconst 1, 1) := by decide +kernel
theorem dX12_areIn_22 : decode cX12_areIn 22 = .ok (.goto 4, 3) := by decide +kernel
theorem dX12_areIn_25 : decode cX12_areIn 25 = .ok (.iconst 0, 1) := by decide +kernel
theorem dX12_areIn_26 : decode cX12_areIn 26 = .ok (.ireturn, 1) := by decide +kernel
theorem dX12_whenIn_0 : decode cX12_whenIn 0 = .ok (.iconst 0, 1) := by decide +kernel
theorem dX12_whenIn_1 : decode cX12_whenIn 1 = .ok (.istore 5, 2) := by decide +kernel
theorem dX12_whenIn_3 : decode cX12_whenIn 3 = .ok (.iload 5, 2) := by decide +kernel
theorem dX12_whenIn_5 : decode cX12_whenIn 5 = .ok (.iload 4, 2) := by decide +kernel
theorem dX12_whenIn_7 : decode cX12_whenIn 7 = .ok (.if_icmp .gt 28, 3) := by decide +kernel
theorem dX12_whenIn_10 : decode cX12_whenIn 10 = .ok (.aload_n 0, 1) := by decide +kernel
theorem dX12_whenIn_11 : decode cX12_whenIn 11 = .ok (.iload_n 1, 1) := by decide +kernel
theorem dX12_whenIn_12 : decode cX12_whenIn 12 = .ok (.iload_n 2, 1) := by decide +kernel
theorem dX12_whenIn_13 : decode cX12_whenIn 13 = .ok (.invokevirtual 408, 3) := by decide +kernel
theorem dX12_whenIn_16 : decode cX12_whenIn 16 = .ok (.iload_n 3, 1) := by decide +kernel
theorem dX12_whenIn_17 : decode cX12_whenIn 17 = .ok (.if_icmp .ne 6, 3) := by decide +kernel
theorem dX12_whenIn_20 : decode cX12_whenIn 20 = .ok (.iload 5, 2) := by decide +kernel
theorem dX12_whenIn_22 : decode cX12_whenIn 22 = .ok (.ireturn, 1) := by decide +kernel
theorem dX12_whenIn_23 : decode cX12_whenIn 23 = .ok (.aload_n 0, 1) := by decide +kernel
theorem dX12_whenIn_24 : decode cX12_whenIn 24 = .ok (.bipush 86, 2) := by decide +kernel
theorem dX12_whenIn_26 : decode cX12_whenIn 26 = .ok (.invokevirtual 334, 3) := by decide +kernel
theorem dX12_whenIn_29 : decode cX12_whenIn 29 = .ok (.iinc 5 1, 3) := by decide +kernel
theorem dX12_whenIn_32 : decode cX12_whenIn 32 = .ok (.goto (-29), 3) := by decide +kernel
theorem dX12_whenIn_35 : decode cX12_whenIn 35 = .ok (.sipush 9999, 3) := by decide +kernel
theorem dX12_whenIn_38 : decode cX12_whenIn 38 = .ok (.ireturn, 1) := by decide +kernel
theorem dX12_meet_0 : decode cX12_meet 0 = .ok (.aload_n 0, 1) := by decide +kernel
theorem dX12_meet_1 : decode cX12_meet 1 = .ok (.iconst 0, 1) := by decide +kernel
theorem dX12_meet_2 : decode cX12_meet 2 = .ok (.putfield 96, 3) := by decide +kernel
theorem dX12_meet_5 : decode cX12_meet 5 = .ok (.aload_n 0, 1) := by decide +kernel
theorem dX12_meet_6 : decode cX12_meet 6 = .ok (.iload_n 1, 1) := by decide +kernel
theorem dX12_meet_7 : decode cX12_meet 7 = .ok (.invokevirtual 368, 3) := by decide +kernel
theorem dX12_meet_10 : decode cX12_meet 10 = .ok (.ifCond .eq 20, 3) := by decide +kernel
theorem dX12_meet_13 : decode cX12_meet 13 = .ok (.aload_n 0, 1) := by decide +kernel
theorem dX12_meet_14 : decode cX12_meet 14 = .ok (.iload_n 2, 1) := by decide +kernel
theorem dX12_meet_15 : decode cX12_meet 15 = .ok (.invokevirtual 368, 3) := by decide +kernel
theorem dX12_meet_18 : decode cX12_meet 18 = .ok (.ifCond .eq 12, 3) := by decide +kernel
theorem dX12_meet_21 : decode cX12_meet 21 = .ok (.aload_n 0, 1) := by decide +kernel
theorem dX12_meet_22 : decode cX12_meet 22 = .ok (.iload_n 3, 1) := by decide +kernel
theorem dX12_meet_23 : decode cX12_meet 23 = .ok (.iconst 1, 1) := by decide +kernel
theorem dX12_meet_24 : decode cX12_meet 24 = .ok (.invokevirtual 371, 3) := by decide +kernel
theorem dX12_meet_27 : decode cX12_meet 27 = .ok (.ifCond .ne 5, 3) := by decide +kernel
theorem dX12_meet_30 : decode cX12_meet 30 = .ok (.iconst 0, 1) := by decide +kernel
theorem dX12_meet_31 : decode cX12_meet 31 = .ok (.ireturn, 1) := by decide +kernel
theorem dX12_meet_32 : decode cX12_meet 32 = .ok (.iload_n 1, 1) := by decide +kernel
theorem dX12_meet_33 : decode cX12_meet 33 = .ok (.iload_n 2, 1) := by decide +kernel
theorem dX12_meet_34 : decode cX12_meet 34 = .ok (.if_icmp .ne 5, 3) := by decide +kernel
theorem dX12_meet_37 : decode cX12_meet 37 = .ok (.iconst (-1), 1) := by decide +kernel
theorem dX12_meet_38 : decode cX12_meet 38 = .ok (.ireturn, 1) := by decide +kernel
theorem dX12_meet_39 : decode cX12_meet 39 = .ok (.aload_n 0, 1) := by decide +kernel
theorem dX12_meet_40 : decode cX12_meet 40 = .ok (.invokevirtual 337, 3) := by decide +kernel
theorem dX12_meet_43 : decode cX12_meet 43 = .ok (.aload_n 0, 1) := by decide +kernel
theorem dX12_meet_44 : decode cX12_meet 44 = .ok (.iload_n 1, 1) := by decide +kernel
theorem dX12_meet_45 : decode cX12_meet 45 = .ok (.iload_n 2, 1) := by decide +kernel
theorem dX12_meet_46 : decode cX12_meet 46 = .ok (.iload_n 3, 1) := by decide +kernel
theorem dX12_meet_47 : decode cX12_meet 47 = .ok (.ifCond .ne 7, 3) := by decide +kernel
theorem dX12_meet_50 : decode cX12_meet 50 = .ok (.iconst 1, 1) := by decide +kernel
theorem dX12_meet_51 : decode cX12_meet 51 = .ok (.goto 4, 3) := by decide +kernel
theorem dX12_meet_54 : decode cX12_meet 54 = .ok (.iconst 0, 1) := by decide +kernel
theorem dX12_meet_55 : decode cX12_meet 55 = .ok (.bipush 100, 2) := by decide +kernel
theorem dX12_meet_57 : decode cX12_meet 57 = .ok (.invokevirtual 411, 3) := by decide +kernel
theorem dX12_meet_60 : decode cX12_meet 60 = .ok (.istore 4, 2) := by decide +kernel
theorem dX12_meet_62 : decode cX12_meet 62 = .ok (.iload 4, 2) := by decide +kernel
theorem dX12_meet_64 : decode cX12_meet 64 = .ok (.sipush 9999, 3) := by decide +kernel
theorem dX12_meet_67 : decode cX12_meet 67 = .ok (.if_icmp .ne 7, 3) := by decide +kernel
theorem dX12_meet_70 : decode cX12_meet 70 = .ok (.iconst (-1), 1) := by decide +kernel
theorem dX12_meet_71 : decode cX12_meet 71 = .ok (.goto 5, 3) := by decide +kernel
