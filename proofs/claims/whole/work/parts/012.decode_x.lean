theorem dX6_init_9 : decode cX6_init 9 = .ok (.invokespecial 11, 3) := by decide +kernel
theorem dX6_init_12 : decode cX6_init 12 = .ok (.putfield 12, 3) := by decide +kernel
theorem dX6_init_15 : decode cX6_init 15 = .ok (.aload_n 0, 1) := by decide +kernel
theorem dX6_init_16 : decode cX6_init 16 = .ok (.new 18, 3) := by decide +kernel
theorem dX6_init_19 : decode cX6_init 19 = .ok (.dup, 1) := by decide +kernel
theorem dX6_init_20 : decode cX6_init 20 = .ok (.invokespecial 20, 3) := by decide +kernel
theorem dX6_init_23 : decode cX6_init 23 = .ok (.putfield 21, 3) := by decide +kernel
theorem dX6_init_26 : decode cX6_init 26 = .ok (.aload_n 0, 1) := by decide +kernel
theorem dX6_init_27 : decode cX6_init 27 = .ok (.new 25, 3) := by decide +kernel
theorem dX6_init_30 : decode cX6_init 30 = .ok (.dup, 1) := by decide +kernel
theorem dX6_init_31 : decode cX6_init 31 = .ok (.invokespecial 27, 3) := by decide +kernel
theorem dX6_init_34 : decode cX6_init 34 = .ok (.putfield 28, 3) := by decide +kernel
theorem dX6_init_37 : decode cX6_init 37 = .ok (.aload_n 0, 1) := by decide +kernel
theorem dX6_init_38 : decode cX6_init 38 = .ok (.new 25, 3) := by decide +kernel
theorem dX6_init_41 : decode cX6_init 41 = .ok (.dup, 1) := by decide +kernel
theorem dX6_init_42 : decode cX6_init 42 = .ok (.invokespecial 27, 3) := by decide +kernel
theorem dX6_init_45 : decode cX6_init 45 = .ok (.putfield 32, 3) := by decide +kernel
theorem dX6_init_48 : decode cX6_init 48 = .ok (.aload_n 0, 1) := by decide +kernel
theorem dX6_init_49 : decode cX6_init 49 = .ok (.iconst 0, 1) := by decide +kernel
theorem dX6_init_50 : decode cX6_init 50 = .ok (.newarray .byte, 2) := by decide +kernel
theorem dX6_init_52 : decode cX6_init 52 = .ok (.putfield 35, 3) := by decide +kernel
theorem dX6_init_55 : decode cX6_init 55 = .ok (.aload_n 0, 1) := by decide +kernel
theorem dX6_init_56 : decode cX6_init 56 = .ok (.iconst 0, 1) := by decide +kernel
theorem dX6_init_57 : decode cX6_init 57 = .ok (.putfield 39, 3) := by decide +kernel
theorem dX6_init_60 : decode cX6_init 60 = .ok (.aload_n 0, 1) := by decide +kernel
theorem dX6_init_61 : decode cX6_init 61 = .ok (.iconst 0, 1) := by decide +kernel
theorem dX6_init_62 : decode cX6_init 62 = .ok (.putfield 43, 3) := by decide +kernel
theorem dX6_init_65 : decode cX6_init 65 = .ok (.aload_n 0, 1) := by decide +kernel
theorem dX6_init_66 : decode cX6_init 66 = .ok (.iconst 0, 1) := by decide +kernel
theorem dX6_init_67 : decode cX6_init 67 = .ok (.putfield 46, 3) := by decide +kernel
theorem dX6_init_70 : decode cX6_init 70 = .ok (.aload_n 0, 1) := by decide +kernel
theorem dX6_init_71 : decode cX6_init 71 = .ok (.iconst 0, 1) := by decide +kernel
theorem dX6_init_72 : decode cX6_init 72 = .ok (.putfield 49, 3) := by decide +kernel
theorem dX6_init_75 : decode cX6_init 75 = .ok (.aload_n 0, 1) := by decide +kernel
theorem dX6_init_76 : decode cX6_init 76 = .ok (.iconst 0, 1) := by decide +kernel
theorem dX6_init_77 : decode cX6_init 77 = .ok (.putfield 52, 3) := by decide +kernel
theorem dX6_init_80 : decode cX6_init 80 = .ok (.aload_n 0, 1) := by decide +kernel
theorem dX6_init_81 : decode cX6_init 81 = .ok (.iconst 0, 1) := by decide +kernel
theorem dX6_init_82 : decode cX6_init 82 = .ok (.putfield 55, 3) := by decide +kernel
theorem dX6_init_85 : decode cX6_init 85 = .ok (.return_, 1) := by decide +kernel
theorem dX6_read_0 : decode cX6_read 0 = .ok (.aload_n 0, 1) := by decide +kernel
theorem dX6_read_1 : decode cX6_read 1 = .ok (.aload_n 1, 1) := by decide +kernel
theorem dX6_read_2 : decode cX6_read 2 = .ok (.putfield 35, 3) := by decide +kernel
theorem dX6_read_5 : decode cX6_read 5 = .ok (.aload_n 0, 1) := by decide +kernel
theorem dX6_read_6 : decode cX6_read 6 = .ok (.iload_n 2, 1) := by decide +kernel
theorem dX6_read_7 : decode cX6_read 7 = .ok (.aload_n 1, 1) := by decide +kernel
theorem dX6_read_8 : decode cX6_read 8 = .ok (.arraylength, 1) := by decide +kernel
theorem dX6_read_9 : decode cX6_read 9 = .ok (.invokestatic 59, 3) := by decide +kernel
theorem dX6_read_12 : decode cX6_read 12 = .ok (.putfield 39, 3) := by decide +kernel
theorem dX6_read_15 : decode cX6_read 15 = .ok (.aload_n 0, 1) := by decide +kernel
theorem dX6_read_16 : decode cX6_read 16 = .ok (.iconst 0, 1) := by decide +kernel
theorem dX6_read_17 : decode cX6_read 17 = .ok (.putfield 46, 3) := by decide +kernel
theorem dX6_read_20 : decode cX6_read 20 = .ok (.aload_n 0, 1) := by decide +kernel
theorem dX6_read_21 : decode cX6_read 21 = .ok (.getfield 12, 3) := by decide +kernel
theorem dX6_read_24 : decode cX6_read 24 = .ok (.invokevirtual 65, 3) := by decide +kernel
theorem dX6_read_27 : decode cX6_read 27 = .ok (.aload_n 0, 1) := by decide +kernel
theorem dX6_read_28 : decode cX6_read 28 = .ok (.getfield 21, 3) := by decide +kernel
theorem dX6_read_31 : decode cX6_read 31 = .ok (.iconst 0, 1) := by decide +kernel
theorem dX6_read_32 : decode cX6_read 32 = .ok (.putfield 68, 3) := by decide +kernel
theorem dX6_read_35 : decode cX6_read 35 = .ok (.aload_n 0, 1) := by decide +kernel
theorem dX6_read_36 : decode cX6_read 36 = .ok (.getfield 28, 3) := by decide +kernel
theorem dX6_read_39 : decode cX6_read 39 = .ok (.invokevirtual 71, 3) := by decide +kernel
theorem dX6_read_42 : decode cX6_read 42 = .ok (.aload_n 0, 1) := by decide +kernel
theorem dX6_read_43 : decode cX6_read 43 = .ok (.getfield 32, 3) := by decide +kernel
theorem dX6_read_46 : decode cX6_read 46 = .ok (.invokevirtual 71, 3) := by decide +kernel
theorem dX6_read_49 : decode cX6_read 49 = .ok (.aload_n 0, 1) := by decide +kernel
theorem dX6_read_50 : decode cX6_read 50 = .ok (.invokevirtual 72, 3) := by decide +kernel
theorem dX6_read_53 : decode cX6_read 53 = .ok (.iconst 0, 1) := by decide +kernel
theorem dX6_read_54 : decode cX6_read 54 = .ok (.istore_n 3, 1) := by decide +kernel
theorem dX6_read_55 : decode cX6_read 55 = .ok (.iconst 0, 1) := by decide +kernel
theorem dX6_read_56 : decode cX6_read 56 = .ok (.istore 4, 2) := by decide +kernel
theorem dX6_read_58 : decode cX6_read 58 = .ok (.iload 4, 2) := by decide +kernel
theorem dX6_read_60 : decode cX6_read 60 = .ok (.aload_n 0, 1) := by decide +kernel
theorem dX6_read_61 : decode cX6_read 61 = .ok (.getfield 39, 3) := by decide +kernel
theorem dX6_read_64 : decode cX6_read 64 = .ok (.if_icmp .gt 25, 3) := by decide +kernel
theorem dX6_read_67 : decode cX6_read 67 = .ok (.aload_n 0, 1) := by decide +kernel
theorem dX6_read_68 : decode cX6_read 68 = .ok (.getfield 49, 3) := by decide +kernel
theorem dX6_read_71 : decode cX6_read 71 = .ok (.ifCond .eq 18, 3) := by decide +kernel
theorem dX6_read_74 : decode cX6_read 74 = .ok (.iload_n 3, 1) := by decide +kernel
theorem dX6_read_75 : decode cX6_read 75 = .ok (.ifCond .ne 14, 3) := by decide +kernel
theorem dX6_read_78 : decode cX6_read 78 = .ok (.aload_n 0, 1) := by decide +kernel
theorem dX6_read_79 : decode cX6_read 79 = .ok (.invokevirtual 75, 3) := by decide +kernel
theorem dX6_read_82 : decode cX6_read 82 = .ok (.istore_n 3, 1) := by decide +kernel
theorem dX6_read_83 : decode cX6_read 83 = .ok (.iinc 4 1, 3) := by decide +kernel
theorem dX6_read_86 : decode cX6_read 86 = .ok (.goto (-28), 3) := by decide +kernel
theorem dX6_read_89 : decode cX6_read 89 = .ok (.iload_n 3, 1) := by decide +kernel
theorem dX6_read_90 : decode cX6_read 90 = .ok (.ifCond .ne 7, 3) := by decide +kernel
theorem dX6_read_93 : decode cX6_read 93 = .ok (.aload_n 0, 1) := by decide +kernel
theorem dX6_read_94 : decode cX6_read 94 = .ok (.invokevirtual 79, 3) := by decide +kernel
theorem dX6_read_97 : decode cX6_read 97 = .ok (.iload_n 3, 1) := by decide +kernel
theorem dX6_read_98 : decode cX6_read 98 = .ok (.ireturn, 1) := by decide +kernel
theorem dX6_place_0 : decode cX6_place 0 = .ok (.aload_n 0, 1) := by decide +kernel
theorem dX6_place_1 : decode cX6_place 1 = .ok (.getfield 43, 3) := by decide +kernel
theorem dX6_place_4 : decode cX6_place 4 = .ok (.ireturn, 1) := by decide +kernel
theorem dX6_next_0 : decode cX6_next 0 = .ok (.aload_n 0, 1) := by decide +kernel
theorem dX6_next_1 : decode cX6_next 1 = .ok (.aload_n 0, 1) := by decide +kernel
theorem dX6_next_2 : decode cX6_next 2 = .ok (.getfield 46, 3) := by decide +kernel
theorem dX6_next_5 : decode cX6_next 5 = .ok (.putfield 43, 3) := by decide +kernel
theorem dX6_next_8 : decode cX6_next 8 = .ok (.aload_n 0, 1) := by decide +kernel
theorem dX6_next_9 : decode cX6_next 9 = .ok (.getfield 43, 3) := by decide +kernel
theorem dX6_next_12 : decode cX6_next 12 = .ok (.aload_n 0, 1) := by decide +kernel
theorem dX6_next_13 : decode cX6_next 13 = .ok (.getfield 39, 3) := by decide +kernel
theorem dX6_next_16 : decode cX6_next 16 = .ok (.if_icmp .ge 44, 3) := by decide +kernel
theorem dX6_next_19 : decode cX6_next 19 = .ok (.aload_n 0, 1) := by decide +kernel
theorem dX6_next_20 : decode cX6_next 20 = .ok (.getfield 35, 3) := by decide +kernel
theorem dX6_next_23 : decode cX6_next 23 = .ok (.aload_n 0, 1) := by decide +kernel
theorem dX6_next_24 : decode cX6_next 24 = .ok (.getfield 43, 3) := by decide +kernel
theorem dX6_next_27 : decode cX6_next 27 = .ok (.baload, 1) := by decide +kernel
theorem dX6_next_28 : decode cX6_next 28 = .ok (.bipush 32, 2) := by decide +kernel
theorem dX6_next_30 : decode cX6_next 30 = .ok (.if_icmp .eq 17, 3) := by decide +kernel
theorem dX6_next_33 : decode cX6_next 33 = .ok (.aload_n 0, 1) := by decide +kernel
theorem dX6_next_34 : decode cX6_next 34 = .ok (.getfield 35, 3) := by decide +kernel
theorem dX6_next_37 : decode cX6_next 37 = .ok (.aload_n 0, 1) := by decide +kernel
theorem dX6_next_38 : decode cX6_next 38 = .ok (.getfield 43, 3) := by decide +kernel
theorem dX6_next_41 : decode cX6_next 41 = .ok (.baload, 1) := by decide +kernel
theorem dX6_next_42 : decode cX6_next 42 = .ok (.bipush 10, 2) := by decide +kernel
theorem dX6_next_44 : decode cX6_next 44 = .ok (.if_icmp .ne 16, 3) := by decide +kernel
theorem dX6_next_47 : decode cX6_next 47 = .ok (.aload_n 0, 1) := by decide +kernel
theorem dX6_next_48 : decode cX6_next 48 = .ok (.dup, 1) := by decide +kernel
theorem dX6_next_49 : decode cX6_next 49 = .ok (.getfield 43, 3) := by decide +kernel
theorem dX6_next_52 : decode cX6_next 52 = .ok (.iconst 1, 1) := by decide +kernel
theorem dX6_next_53 : decode cX6_next 53 = .ok (.iadd, 1) := by decide +kernel
theorem dX6_next_54 : decode cX6_next 54 = .ok (.putfield 43, 3) := by decide +kernel
theorem dX6_next_57 : decode cX6_next 57 = .ok (.goto (-49), 3) := by decide +kernel
theorem dX6_next_60 : decode cX6_next 60 = .ok (.aload_n 0, 1) := by decide +kernel
theorem dX6_next_61 : decode cX6_next 61 = .ok (.getfield 43, 3) := by decide +kernel
theorem dX6_next_64 : decode cX6_next 64 = .ok (.aload_n 0, 1) := by decide +kernel
theorem dX6_next_65 : decode cX6_next 65 = .ok (.getfield 39, 3) := by decide +kernel
theorem dX6_next_68 : decode cX6_next 68 = .ok (.if_icmp .lt 17, 3) := by decide +kernel
theorem dX6_next_71 : decode cX6_next 71 = .ok (.aload_n 0, 1) := by decide +kernel
theorem dX6_next_72 : decode cX6_next 72 = .ok (.aload_n 0, 1) := by decide +kernel
theorem dX6_next_73 : decode cX6_next 73 = .ok (.getfield 43, 3) := by decide +kernel
theorem dX6_next_76 : decode cX6_next 76 = .ok (.putfield 46, 3) := by decide +kernel
theorem dX6_next_79 : decode cX6_next 79 = .ok (.aload_n 0, 1) := by decide +kernel
theorem dX6_next_80 : decode cX6_next 80 = .ok (.iconst 0, 1) := by decide +kernel
theorem dX6_next_81 : decode cX6_next 81 = .ok (.putfield 49, 3) := by decide +kernel
theorem dX6_next_84 : decode cX6_next 84 = .ok (.return_, 1) := by decide +kernel
theorem dX6_next_85 : decode cX6_next 85 = .ok (.aload_n 0, 1) := by decide +kernel
theorem dX6_next_86 : decode cX6_next 86 = .ok (.getfield 35, 3) := by decide +kernel
theorem dX6_next_89 : decode cX6_next 89 = .ok (.aload_n 0, 1) := by decide +kernel
theorem dX6_next_90 : decode cX6_next 90 = .ok (.getfield 43, 3) := by decide +kernel
theorem dX6_next_93 : decode cX6_next 93 = .ok (.baload, 1) := by decide +kernel
theorem dX6_next_94 : decode cX6_next 94 = .ok (.sipush 255, 3) := by decide +kernel
theorem dX6_next_97 : decode cX6_next 97 = .ok (.iand, 1) := by decide +kernel
theorem dX6_next_98 : decode cX6_next 98 = .ok (.istore_n 1, 1) := by decide +kernel
theorem dX6_next_99 : decode cX6_next 99 = .ok (.iload_n 1, 1) := by decide +kernel
theorem dX6_next_100 : decode cX6_next 100 = .ok (.bipush 97, 2) := by decide +kernel
theorem dX6_next_102 : decode cX6_next 102 = .ok (.if_icmp .lt 29, 3) := by decide +kernel
theorem dX6_next_105 : decode cX6_next 105 = .ok (.iload_n 1, 1) := by decide +kernel
theorem dX6_next_106 : decode cX6_next 106 = .ok (.bipush 122, 2) := by decide +kernel
theorem dX6_next_108 : decode cX6_next 108 = .ok (.if_icmp .gt 23, 3) := by decide +kernel
theorem dX6_next_111 : decode cX6_next 111 = .ok (.aload_n 0, 1) := by decide +kernel
theorem dX6_next_112 : decode cX6_next 112 = .ok (.iconst 1, 1) := by decide +kernel
theorem dX6_next_113 : decode cX6_next 113 = .ok (.putfield 49, 3) := by decide +kernel
theorem dX6_next_116 : decode cX6_next 116 = .ok (.aload_n 0, 1) := by decide +kernel
theorem dX6_next_117 : decode cX6_next 117 = .ok (.aload_n 0, 1) := by decide +kernel
theorem dX6_next_118 : decode cX6_next 118 = .ok (.bipush 97, 2) := by decide +kernel
theorem dX6_next_120 : decode cX6_next 120 = .ok (.bipush 122, 2) := by decide +kernel
theorem dX6_next_122 : decode cX6_next 122 = .ok (.invokevirtual 82, 3) := by decide +kernel
theorem dX6_next_125 : decode cX6_next 125 = .ok (.putfield 46, 3) := by decide +kernel
theorem dX6_next_128 : decode cX6_next 128 = .ok (.goto 72, 3) := by decide +kernel
theorem dX6_next_131 : decode cX6_next 131 = .ok (.iload_n 1, 1) := by decide +kernel
theorem dX6_next_132 : decode cX6_next 132 = .ok (.bipush 48, 2) := by decide +kernel
theorem dX6_next_134 : decode cX6_next 134 = .ok (.if_icmp .lt 37, 3) := by decide +kernel
theorem dX6_next_137 : decode cX6_next 137 = .ok (.iload_n 1, 1) := by decide +kernel
theorem dX6_next_138 : decode cX6_next 138 = .ok (.bipush 57, 2) := by decide +kernel
theorem dX6_next_140 : decode cX6_next 140 = .ok (.if_icmp .gt 31, 3) := by decide +kernel
theorem dX6_next_143 : decode cX6_next 143 = .ok (.aload_n 0, 1) := by decide +kernel
theorem dX6_next_144 : decode cX6_next 144 = .ok (.iconst 2, 1) := by decide +kernel
theorem dX6_next_145 : decode cX6_next 145 = .ok (.putfield 49, 3) := by decide +kernel
theorem dX6_next_148 : decode cX6_next 148 = .ok (.aload_n 0, 1) := by decide +kernel
theorem dX6_next_149 : decode cX6_next 149 = .ok (.aload_n 0, 1) := by decide +kernel
theorem dX6_next_150 : decode cX6_next 150 = .ok (.bipush 48, 2) := by decide +kernel
theorem dX6_next_152 : decode cX6_next 152 = .ok (.bipush 57, 2) := by decide +kernel
theorem dX6_next_154 : decode cX6_next 154 = .ok (.invokevirtual 82, 3) := by decide +kernel
theorem dX6_next_157 : decode cX6_next 157 = .ok (.putfield 46, 3) := by decide +kernel
theorem dX6_next_160 : decode cX6_next 160 = .ok (.aload_n 0, 1) := by decide +kernel
theorem dX6_next_161 : decode cX6_next 161 = .ok (.aload_n 0, 1) := by decide +kernel
theorem dX6_next_162 : decode cX6_next 162 = .ok (.invokevirtual 86, 3) := by decide +kernel
theorem dX6_next_165 : decode cX6_next 165 = .ok (.putfield 52, 3) := by decide +kernel
theorem dX6_next_168 : decode cX6_next 168 = .ok (.goto 32, 3) := by decide +kernel
theorem dX6_next_171 : decode cX6_next 171 = .ok (.aload_n 0, 1) := by decide +kernel
theorem dX6_next_172 : decode cX6_next 172 = .ok (.ldc 89, 2) := by decide +kernel
theorem dX6_next_174 : decode cX6_next 174 = .ok (.iload_n 1, 1) := by decide +kernel
theorem dX6_next_175 : decode cX6_next 175 = .ok (.i2c, 1) := by decide +kernel
theorem dX6_next_176 : decode cX6_next 176 = .ok (.invokevirtual 91, 3) := by decide +kernel
theorem dX6_next_179 : decode cX6_next 179 = .ok (.ifCond .lt 7, 3) := by decide +kernel
theorem dX6_next_182 : decode cX6_next 182 = .ok (.iload_n 1, 1) := by decide +kernel
theorem dX6_next_183 : decode cX6_next 183 = .ok (.goto 4, 3) := by decide +kernel
theorem dX6_next_186 : decode cX6_next 186 = .ok (.iconst 3, 1) := by decide +kernel
theorem dX6_next_187 : decode cX6_next 187 = .ok (.putfield 49, 3) := by decide +kernel
theorem dX6_next_190 : decode cX6_next 190 = .ok (.aload_n 0, 1) := by decide +kernel
theorem dX6_next_191 : decode cX6_next 191 = .ok (.aload_n 0, 1) := by decide +kernel
theorem dX6_next_192 : decode cX6_next 192 = .ok (.getfield 43, 3) := by decide +kernel
theorem dX6_next_195 : decode cX6_next 195 = .ok (.iconst 1, 1) := by decide +kernel
theorem dX6_next_196 : decode cX6_next 196 = .ok (.iadd, 1) := by decide +kernel
theorem dX6_next_197 : decode cX6_next 197 = .ok (.putfield 46, 3) := by decide +kernel
theorem dX6_next_200 : decode cX6_next 200 = .ok (.return_, 1) := by decide +kernel
theorem dX6_endOfRow_0 : decode cX6_endOfRow 0 = .ok (.aload_n 0, 1) := by decide +kernel
theorem dX6_endOfRow_1 : decode cX6_endOfRow 1 = .ok (.getfield 43, 3) := by decide +kernel
theorem dX6_endOfRow_4 : decode cX6_endOfRow 4 = .ok (.istore_n 3, 1) := by decide +kernel
theorem dX6_endOfRow_5 : decode cX6_endOfRow 5 = .ok (.iload_n 3, 1) := by decide +kernel
theorem dX6_endOfRow_6 : decode cX6_endOfRow 6 = .ok (.aload_n 0, 1) := by decide +kernel
theorem dX6_endOfRow_7 : decode cX6_endOfRow 7 = .ok (.getfield 39, 3) := by decide +kernel
theorem dX6_endOfRow_10 : decode cX6_endOfRow 10 = .ok (.if_icmp .ge 29, 3) := by decide +kernel
theorem dX6_endOfRow_13 : decode cX6_endOfRow 13 = .ok (.aload_n 0, 1) := by decide +kernel
theorem dX6_endOfRow_14 : decode cX6_endOfRow 14 = .ok (.getfield 35, 3) := by decide +kernel
theorem dX6_endOfRow_17 : decode cX6_endOfRow 17 = .ok (.iload_n 3, 1) := by decide +kernel
theorem dX6_endOfRow_18 : decode cX6_endOfRow 18 = .ok (.baload, 1) := by decide +kernel
theorem dX6_endOfRow_19 : decode cX6_endOfRow 19 = .ok (.iload_n 1, 1) := by decide +kernel
theorem dX6_endOfRow_20 : decode cX6_endOfRow 20 = .ok (.if_icmp .lt 19, 3) := by decide +kernel
theorem dX6_endOfRow_23 : decode cX6_endOfRow 23 = .ok (.aload_n 0, 1) := by decide +kernel
theorem dX6_endOfRow_24 : decode cX6_endOfRow 24 = .ok (.getfield 35, 3) := by decide +kernel
theorem dX6_endOfRow_27 : decode cX6_endOfRow 27 = .ok (.iload_n 3, 1) := by decide +kernel
theorem dX6_endOfRow_28 : decode cX6_endOfRow 28 = .ok (.baload, 1) := by decide +kernel
theorem dX6_endOfRow_29 : decode cX6_endOfRow 29 = .ok (.iload_n 2, 1) := by decide +kernel
theorem dX6_endOfRow_30 : decode cX6_endOfRow 30 = .ok (.if_icmp .gt 9, 3) := by decide +kernel
theorem dX6_endOfRow_33 : decode cX6_endOfRow 33 = .ok (.iinc 3 1, 3) := by decide +kernel
theorem dX6_endOfRow_36 : decode cX6_endOfRow 36 = .ok (.goto (-31), 3) := by decide +kernel
theorem dX6_endOfRow_39 : decode cX6_endOfRow 39 = .ok (.iload_n 3, 1) := by decide +kernel
theorem dX6_endOfRow_40 : decode cX6_endOfRow 40 = .ok (.ireturn, 1) := by decide +kernel
theorem dX6_numberTold_0 : decode cX6_numberTold 0 = .ok (.iconst 0, 1) := by decide +kernel
theorem dX6_numberTold_1 : decode cX6_numberTold 1 = .ok (.istore_n 1, 1) := by decide +kernel
theorem dX6_numberTold_2 : decode cX6_numberTold 2 = .ok (.aload_n 0, 1) := by decide +kernel
theorem dX6_numberTold_3 : decode cX6_numberTold 3 = .ok (.getfield 43, 3) := by decide +kernel
theorem dX6_numberTold_6 : decode cX6_numberTold 6 = .ok (.istore_n 2, 1) := by decide +kernel
theorem dX6_numberTold_7 : decode cX6_numberTold 7 = .ok (.iload_n 2, 1) := by decide +kernel
theorem dX6_numberTold_8 : decode cX6_numberTold 8 = .ok (.aload_n 0, 1) := by decide +kernel
theorem dX6_numberTold_9 : decode cX6_numberTold 9 = .ok (.getfield 46, 3) := by decide +kernel
theorem dX6_numberTold_12 : decode cX6_numberTold 12 = .ok (.if_icmp .ge 34, 3) := by decide +kernel
theorem dX6_numberTold_15 : decode cX6_numberTold 15 = .ok (.iload_n 2, 1) := by decide +kernel
theorem dX6_numberTold_16 : decode cX6_numberTold 16 = .ok (.aload_n 0, 1) := by decide +kernel
theorem dX6_numberTold_17 : decode cX6_numberTold 17 = .ok (.getfield 43, 3) := by decide +kernel
theorem dX6_numberTold_20 : decode cX6_numberTold 20 = .ok (.iconst 4, 1) := by decide +kernel
theorem dX6_numberTold_21 : decode cX6_numberTold 21 = .ok (.iadd, 1) := by decide +kernel
theorem dX6_numberTold_22 : decode cX6_numberTold 22 = .ok (.if_icmp .ge 24, 3) := by decide +kernel
theorem dX6_numberTold_25 : decode cX6_numberTold 25 = .ok (.iload_n 1, 1) := by decide +kernel
theorem dX6_numberTold_26 : decode cX6_numberTold 26 = .ok (.bipush 10, 2) := by decide +kernel
theorem dX6_numberTold_28 : decode cX6_numberTold 28 = .ok (.imul, 1) := by decide +kernel
theorem dX6_numberTold_29 : decode cX6_numberTold 29 = .ok (.aload_n 0, 1) := by decide +kernel
theorem dX6_numberTold_30 : decode cX6_numberTold 30 = .ok (.getfield 35, 3) := by decide +kernel
theorem dX6_numberTold_33 : decode cX6_numberTold 33 = .ok (.iload_n 2, 1) := by decide +kernel
theorem dX6_numberTold_34 : decode cX6_numberTold 34 = .ok (.baload, 1) := by decide +kernel
theorem dX6_numberTold_35 : decode cX6_numberTold 35 = .ok (.iadd, 1) := by decide +kernel
theorem dX6_numberTold_36 : decode cX6_numberTold 36 = .ok (.bipush 48, 2) := by decide +kernel
theorem dX6_numberTold_38 : decode cX6_numberTold 38 = .ok (.isub, 1) := by decide +kernel
theorem dX6_numberTold_39 : decode cX6_numberTold 39 = .ok (.istore_n 1, 1) := by decide +kernel
theorem dX6_numberTold_40 : decode cX6_numberTold 40 = .ok (.iinc 2 1, 3) := by decide +kernel
theorem dX6_numberTold_43 : decode cX6_numberTold 43 = .ok (.goto (-36), 3) := by decide +kernel
theorem dX6_numberTold_46 : decode cX6_numberTold 46 = .ok (.iload_n 1, 1) := by decide +kernel
theorem dX6_numberTold_47 : decode cX6_numberTold 47 = .ok (.ireturn, 1) := by decide +kernel
theorem dX6_isWord_0 : decode cX6_isWord 0 = .ok (.aload_n 0, 1) := by decide +kernel
theorem dX6_isWord_1 : decode cX6_isWord 1 = .ok (.getfield 49, 3) := by decide +kernel
theorem dX6_isWord_4 : decode cX6_isWord 4 = .ok (.iconst 1, 1) := by decide +kernel
theorem dX6_isWord_5 : decode cX6_isWord 5 = .ok (.if_icmp .ne 19, 3) := by decide +kernel
theorem dX6_isWord_8 : decode cX6_isWord 8 = .ok (.aload_n 0, 1) := by decide +kernel
theorem dX6_isWord_9 : decode cX6_isWord 9 = .ok (.getfield 46, 3) := by decide +kernel
theorem dX6_isWord_12 : decode cX6_isWord 12 = .ok (.aload_n 0, 1) := by decide +kernel
theorem dX6_isWord_13 : decode cX6_isWord 13 = .ok (.getfield 43, 3) := by decide +kernel
theorem dX6_isWord_16 : decode cX6_isWord 16 = .ok (.isub, 1) := by decide +kernel
theorem dX6_isWord_17 : decode cX6_isWord 17 = .ok (.aload_n 1, 1) := by decide +kernel
theorem dX6_isWord_18 : decode cX6_isWord 18 = .ok (.invokevirtual 97, 3) := by decide +kernel
theorem dX6_isWord_21 : decode cX6_isWord 21 = .ok (.if_icmp .eq 5, 3) := by decide +kernel
theorem dX6_isWord_24 : decode cX6_isWord 24 = .ok (.iconst 0, 1) := by decide +kernel
theorem dX6_isWord_25 : decode cX6_isWord 25 = .ok (.ireturn, 1) := by decide +kernel
theorem dX6_isWord_26 : decode cX6_isWord 26 = .ok (.iconst 0, 1) := by decide +kernel
theorem dX6_isWord_27 : decode cX6_isWord 27 = .ok (.istore_n 2, 1) := by decide +kernel
theorem dX6_isWord_28 : decode cX6_isWord 28 = .ok (.iload_n 2, 1) := by decide +kernel
theorem dX6_isWord_29 : decode cX6_isWord 29 = .ok (.aload_n 1, 1) := by decide +kernel
theorem dX6_isWord_30 : decode cX6_isWord 30 = .ok (.invokevirtual 97, 3) := by decide +kernel
theorem dX6_isWord_33 : decode cX6_isWord 33 = .ok (.if_icmp .ge 30, 3) := by decide +kernel
theorem dX6_isWord_36 : decode cX6_isWord 36 = .ok (.aload_n 0, 1) := by decide +kernel
theorem dX6_isWord_37 : decode cX6_isWord 37 = .ok (.getfield 35, 3) := by decide +kernel
theorem dX6_isWord_40 : decode cX6_isWord 40 = .ok (.aload_n 0, 1) := by decide +kernel
theorem dX6_isWord_41 : decode cX6_isWord 41 = .ok (.getfield 43, 3) := by decide +kernel
theorem dX6_isWord_44 : decode cX6_isWord 44 = .ok (.iload_n 2, 1) := by decide +kernel
theorem dX6_isWord_45 : decode cX6_isWord 45 = .ok (.iadd, 1) := by decide +kernel
theorem dX6_isWord_46 : decode cX6_isWord 46 = .ok (.baload, 1) := by decide +kernel
theorem dX6_isWord_47 : decode cX6_isWord 47 = .ok (.aload_n 1, 1) := by decide +kernel
theorem dX6_isWord_48 : decode cX6_isWord 48 = .ok (.iload_n 2, 1) := by decide +kernel
theorem dX6_isWord_49 : decode cX6_isWord 49 = .ok (.invokevirtual 99, 3) := by decide +kernel
theorem dX6_isWord_52 : decode cX6_isWord 52 = .ok (.if_icmp .eq 5, 3) := by decide +kernel
theorem dX6_isWord_55 : decode cX6_isWord 55 = .ok (.iconst 0, 1) := by decide +kernel
theorem dX6_isWord_56 : decode cX6_isWord 56 = .ok (.ireturn, 1) := by decide +kernel
theorem dX6_isWord_57 : decode cX6_isWord 57 = .ok (.iinc 2 1, 3) := by decide +kernel
theorem dX6_isWord_60 : decode cX6_isWord 60 = .ok (.goto (-32), 3) := by decide +kernel
theorem dX6_isWord_63 : decode cX6_isWord 63 = .ok (.iconst 1, 1) := by decide +kernel
theorem dX6_isWord_64 : decode cX6_isWord 64 = .ok (.ireturn, 1) := by decide +kernel
theorem dX6_line_0 : decode cX6_line 0 = .ok (.aload_n 0, 1) := by decide +kernel
theorem dX6_line_1 : decode cX6_line 1 = .ok (.ldc 103, 2) := by decide +kernel
theorem dX6_line_3 : decode cX6_line 3 = .ok (.invokevirtual 105, 3) := by decide +kernel
theorem dX6_line_6 : decode cX6_line 6 = .ok (.ifCond .eq 8, 3) := by decide +kernel
theorem dX6_line_9 : decode cX6_line 9 = .ok (.aload_n 0, 1) := by decide +kernel
theorem dX6_line_10 : decode cX6_line 10 = .ok (.invokevirtual 109, 3) := by decide +kernel
theorem dX6_line_13 : decode cX6_line 13 = .ok (.ireturn, 1) := by decide +kernel
theorem dX6_line_14 : decode cX6_line 14 = .ok (.aload_n 0, 1) := by decide +kernel
theorem dX6_line_15 : decode cX6_line 15 = .ok (.ldc 112, 2) := by decide +kernel
theorem dX6_line_17 : decode cX6_line 17 = .ok (.invokevirtual 105, 3) := by decide +kernel
theorem dX6_line_20 : decode cX6_line 20 = .ok (.ifCond .eq 8, 3) := by decide +kernel
theorem dX6_line_23 : decode cX6_line 23 = .ok (.aload_n 0, 1) := by decide +kernel
theorem dX6_line_24 : decode cX6_line 24 = .ok (.invokevirtual 114, 3) := by decide +kernel
theorem dX6_line_27 : decode cX6_line 27 = .ok (.ireturn, 1) := by decide +kernel
theorem dX6_line_28 : decode cX6_line 28 = .ok (.aload_n 0, 1) := by decide +kernel
theorem dX6_line_29 : decode cX6_line 29 = .ok (.ldc 117, 2) := by decide +kernel
theorem dX6_line_31 : decode cX6_line 31 = .ok (.invokevirtual 105, 3) := by decide +kernel
theorem dX6_line_34 : decode cX6_line 34 = .ok (.ifCond .eq 8, 3) := by decide +kernel
theorem dX6_line_37 : decode cX6_line 37 = .ok (.aload_n 0, 1) := by decide +kernel
theorem dX6_line_38 : decode cX6_line 38 = .ok (.invokevirtual 118, 3) := by decide +kernel
theorem dX6_line_41 : decode cX6_line 41 = .ok (.ireturn, 1) := by decide +kernel
theorem dX6_line_42 : decode cX6_line 42 = .ok (.aload_n 0, 1) := by decide +kernel
theorem dX6_line_43 : decode cX6_line 43 = .ok (.ldc 121, 2) := by decide +kernel
theorem dX6_line_45 : decode cX6_line 45 = .ok (.invokevirtual 105, 3) := by decide +kernel
theorem dX6_line_48 : decode cX6_line 48 = .ok (.ifCond .eq 13, 3) := by decide +kernel
theorem dX6_line_51 : decode cX6_line 51 = .ok (.aload_n 0, 1) := by decide +kernel
theorem dX6_line_52 : decode cX6_line 52 = .ok (.aload_n 0, 1) := by decide +kernel
theorem dX6_line_53 : decode cX6_line 53 = .ok (.getfield 28, 3) := by decide +kernel
theorem dX6_line_56 : decode cX6_line 56 = .ok (.iconst 1, 1) := by decide +kernel
theorem dX6_line_57 : decode cX6_line 57 = .ok (.invokevirtual 122, 3) := by decide +kernel
theorem dX6_line_60 : decode cX6_line 60 = .ok (.ireturn, 1) := by decide +kernel
theorem dX6_line_61 : decode cX6_line 61 = .ok (.aload_n 0, 1) := by decide +kernel
theorem dX6_line_62 : decode cX6_line 62 = .ok (.ldc 126, 2) := by decide +kernel
theorem dX6_line_64 : decode cX6_line 64 = .ok (.invokevirtual 105, 3) := by decide +kernel
theorem dX6_line_67 : decode cX6_line 67 = .ok (.ifCond .eq 13, 3) := by decide +kernel
theorem dX6_line_70 : decode cX6_line 70 = .ok (.aload_n 0, 1) := by decide +kernel
theorem dX6_line_71 : decode cX6_line 71 = .ok (.aload_n 0, 1) := by decide +kernel
theorem dX6_line_72 : decode cX6_line 72 = .ok (.getfield 32, 3) := by decide +kernel
theorem dX6_line_75 : decode cX6_line 75 = .ok (.iconst 0, 1) := by decide +kernel
theorem dX6_line_76 : decode cX6_line 76 = .ok (.invokevirtual 122, 3) := by decide +kernel
theorem dX6_line_79 : decode cX6_line 79 = .ok (.ireturn, 1) := by decide +kernel
theorem dX6_line_80 : decode cX6_line 80 = .ok (.iconst 1, 1) := by decide +kernel
theorem dX6_line_81 : decode cX6_line 81 = .ok (.ireturn, 1) := by decide +kernel
theorem dX6_lineEnd_0 : decode cX6_lineEnd 0 = .ok (.aload_n 0, 1) := by decide +kernel
theorem dX6_lineEnd_1 : decode cX6_lineEnd 1 = .ok (.getfield 49, 3) := by decide +kernel
theorem dX6_lineEnd_4 : decode cX6_lineEnd 4 = .ok (.bipush 59, 2) := by decide +kernel
theorem dX6_lineEnd_6 : decode cX6_lineEnd 6 = .ok (.if_icmp .eq 5, 3) := by decide +kernel
theorem dX6_lineEnd_9 : decode cX6_lineEnd 9 = .ok (.iconst 1, 1) := by decide +kernel
theorem dX6_lineEnd_10 : decode cX6_lineEnd 10 = .ok (.ireturn, 1) := by decide +kernel
theorem dX6_lineEnd_11 : decode cX6_lineEnd 11 = .ok (.aload_n 0, 1) := by decide +kernel
theorem dX6_lineEnd_12 : decode cX6_lineEnd 12 = .ok (.invokevirtual 72, 3) := by decide +kernel
theorem dX6_lineEnd_15 : decode cX6_lineEnd 15 = .ok (.iconst 0, 1) := by decide +kernel
theorem dX6_lineEnd_16 : decode cX6_lineEnd 16 = .ok (.ireturn, 1) := by decide +kernel
theorem dX6_personLine_0 : decode cX6_personLine 0 = .ok (.aload_n 0, 1) := by decide +kernel
theorem dX6_personLine_1 : decode cX6_personLine 1 = .ok (.getfield 12, 3) := by decide +kernel
theorem dX6_personLine_4 : decode cX6_personLine 4 = .ok (.getfield 127, 3) := by decide +kernel
theorem dX6_personLine_7 : decode cX6_personLine 7 = .ok (.bipush 12, 2) := by decide +kernel
theorem dX6_personLine_9 : decode cX6_personLine 9 = .ok (.if_icmp .lt 5, 3) := by decide +kernel
theorem dX6_personLine_12 : decode cX6_personLine 12 = .ok (.iconst 2, 1) := by decide +kernel
theorem dX6_personLine_13 : decode cX6_personLine 13 = .ok (.ireturn, 1) := by decide +kernel
theorem dX6_personLine_14 : decode cX6_personLine 14 = .ok (.aload_n 0, 1) := by decide +kernel
theorem dX6_personLine_15 : decode cX6_personLine 15 = .ok (.invokevirtual 72, 3) := by decide +kernel
theorem dX6_personLine_18 : decode cX6_personLine 18 = .ok (.aload_n 0, 1) := by decide +kernel
theorem dX6_personLine_19 : decode cX6_personLine 19 = .ok (.getfield 49, 3) := by decide +kernel
theorem dX6_personLine_22 : decode cX6_personLine 22 = .ok (.iconst 2, 1) := by decide +kernel
theorem dX6_personLine_23 : decode cX6_personLine 23 = .ok (.if_icmp .eq 5, 3) := by decide +kernel
theorem dX6_personLine_26 : decode cX6_personLine 26 = .ok (.iconst 1, 1) := by decide +kernel
theorem dX6_personLine_27 : decode cX6_personLine 27 = .ok (.ireturn, 1) := by decide +kernel
theorem dX6_personLine_28 : decode cX6_personLine 28 = .ok (.aload_n 0, 1) := by decide +kernel
theorem dX6_personLine_29 : decode cX6_personLine 29 = .ok (.getfield 46, 3) := by decide +kernel
theorem dX6_personLine_32 : decode cX6_personLine 32 = .ok (.aload_n 0, 1) := by decide +kernel
theorem dX6_personLine_33 : decode cX6_personLine 33 = .ok (.getfield 43, 3) := by decide +kernel
theorem dX6_personLine_36 : decode cX6_personLine 36 = .ok (.isub, 1) := by decide +kernel
theorem dX6_personLine_37 : decode cX6_personLine 37 = .ok (.iconst 4, 1) := by decide +kernel
theorem dX6_personLine_38 : decode cX6_personLine 38 = .ok (.if_icmp .gt 12, 3) := by decide +kernel
theorem dX6_personLine_41 : decode cX6_personLine 41 = .ok (.aload_n 0, 1) := by decide +kernel
theorem dX6_personLine_42 : decode cX6_personLine 42 = .ok (.getfield 52, 3) := by decide +kernel
theorem dX6_personLine_45 : decode cX6_personLine 45 = .ok (.bipush 9, 2) := by decide +kernel
theorem dX6_personLine_47 : decode cX6_personLine 47 = .ok (.if_icmp .le 5, 3) := by decide +kernel
theorem dX6_personLine_50 : decode cX6_personLine 50 = .ok (.iconst 2, 1) := by decide +kernel
theorem dX6_personLine_51 : decode cX6_personLine 51 = .ok (.ireturn, 1) := by decide +kernel
theorem dX6_personLine_52 : decode cX6_personLine 52 = .ok (.aload_n 0, 1) := by decide +kernel
theorem dX6_personLine_53 : decode cX6_personLine 53 = .ok (.getfield 12, 3) := by decide +kernel
theorem dX6_personLine_56 : decode cX6_personLine 56 = .ok (.aload_n 0, 1) := by decide +kernel
theorem dX6_personLine_57 : decode cX6_personLine 57 = .ok (.getfield 52, 3) := by decide +kernel
theorem dX6_personLine_60 : decode cX6_personLine 60 = .ok (.invokevirtual 130, 3) := by decide +kernel
theorem dX6_personLine_63 : decode cX6_personLine 63 = .ok (.aload_n 0, 1) := by decide +kernel
theorem dX6_personLine_64 : decode cX6_personLine 64 = .ok (.invokevirtual 72, 3) := by decide +kernel
theorem dX6_personLine_67 : decode cX6_personLine 67 = .ok (.aload_n 0, 1) := by decide +kernel
theorem dX6_personLine_68 : decode cX6_personLine 68 = .ok (.invokevirtual 134, 3) := by decide +kernel
theorem dX6_personLine_71 : decode cX6_personLine 71 = .ok (.ireturn, 1) := by decide +kernel
theorem dX6_houseLine_0 : decode cX6_houseLine 0 = .ok (.aload_n 0, 1) := by decide +kernel
theorem dX6_houseLine_1 : decode cX6_houseLine 1 = .ok (.getfield 12, 3) := by decide +kernel
theorem dX6_houseLine_4 : decode cX6_houseLine 4 = .ok (.invokevirtual 137, 3) := by decide +kernel
theorem dX6_houseLine_7 : decode cX6_houseLine 7 = .ok (.istore_n 1, 1) := by decide +kernel
theorem dX6_houseLine_8 : decode cX6_houseLine 8 = .ok (.aload_n 0, 1) := by decide +kernel
theorem dX6_houseLine_9 : decode cX6_houseLine 9 = .ok (.invokevirtual 72, 3) := by decide +kernel
theorem dX6_houseLine_12 : decode cX6_houseLine 12 = .ok (.aload_n 0, 1) := by decide +kernel
theorem dX6_houseLine_13 : decode cX6_houseLine 13 = .ok (.iload_n 1, 1) := by decide +kernel
theorem dX6_houseLine_14 : decode cX6_houseLine 14 = .ok (.invokevirtual 140, 3) := by decide +kernel
theorem dX6_houseLine_17 : decode cX6_houseLine 17 = .ok (.istore_n 2, 1) := by decide +kernel
theorem dX6_houseLine_18 : decode cX6_houseLine 18 = .ok (.iconst 0, 1) := by decide +kernel
theorem dX6_houseLine_19 : decode cX6_houseLine 19 = .ok (.istore_n 3, 1) := by decide +kernel
theorem dX6_houseLine_20 : decode cX6_houseLine 20 = .ok (.iload_n 3, 1) := by decide +kernel
theorem dX6_houseLine_21 : decode cX6_houseLine 21 = .ok (.aload_n 0, 1) := by decide +kernel
theorem dX6_houseLine_22 : decode cX6_houseLine 22 = .ok (.getfield 39, 3) := by decide +kernel
theorem dX6_houseLine_25 : decode cX6_houseLine 25 = .ok (.if_icmp .ge 27, 3) := by decide +kernel
theorem dX6_houseLine_28 : decode cX6_houseLine 28 = .ok (.iload_n 2, 1) := by decide +kernel
theorem dX6_houseLine_29 : decode cX6_houseLine 29 = .ok (.ifCond .ne 23, 3) := by decide +kernel
theorem dX6_houseLine_32 : decode cX6_houseLine 32 = .ok (.aload_n 0, 1) := by decide +kernel
theorem dX6_houseLine_33 : decode cX6_houseLine 33 = .ok (.getfield 49, 3) := by decide +kernel
theorem dX6_houseLine_36 : decode cX6_houseLine 36 = .ok (.iconst 2, 1) := by decide +kernel
theorem dX6_houseLine_37 : decode cX6_houseLine 37 = .ok (.if_icmp .ne 15, 3) := by decide +kernel
theorem dX6_houseLine_40 : decode cX6_houseLine 40 = .ok (.aload_n 0, 1) := by decide +kernel
theorem dX6_houseLine_41 : decode cX6_houseLine 41 = .ok (.iload_n 1, 1) := by decide +kernel
theorem dX6_houseLine_42 : decode cX6_houseLine 42 = .ok (.invokevirtual 140, 3) := by decide +kernel
theorem dX6_houseLine_45 : decode cX6_houseLine 45 = .ok (.istore_n 2, 1) := by decide +kernel
theorem dX6_houseLine_46 : decode cX6_houseLine 46 = .ok (.iinc 3 1, 3) := by decide +kernel
theorem dX6_houseLine_49 : decode cX6_houseLine 49 = .ok (.goto (-29), 3) := by decide +kernel
theorem dX6_houseLine_52 : decode cX6_houseLine 52 = .ok (.iload_n 2, 1) := by decide +kernel
theorem dX6_houseLine_53 : decode cX6_houseLine 53 = .ok (.ifCond .eq 7, 3) := by decide +kernel
theorem dX6_houseLine_56 : decode cX6_houseLine 56 = .ok (.iload_n 2, 1) := by decide +kernel
theorem dX6_houseLine_57 : decode cX6_houseLine 57 = .ok (.goto 7, 3) := by decide +kernel
theorem dX6_houseLine_60 : decode cX6_houseLine 60 = .ok (.aload_n 0, 1) := by decide +kernel
theorem dX6_houseLine_61 : decode cX6_houseLine 61 = .ok (.invokevirtual 134, 3) := by decide +kernel
theorem dX6_houseLine_64 : decode cX6_houseLine 64 = .ok (.ireturn, 1) := by decide +kernel
theorem dX6_dweller_0 : decode cX6_dweller 0 = .ok (.aload_n 0, 1) := by decide +kernel
theorem dX6_dweller_1 : decode cX6_dweller 1 = .ok (.invokevirtual 143, 3) := by decide +kernel
theorem dX6_dweller_4 : decode cX6_dweller 4 = .ok (.istore_n 2, 1) := by decide +kernel
theorem dX6_dweller_5 : decode cX6_dweller 5 = .ok (.iload_n 2, 1) := by decide +kernel
theorem dX6_dweller_6 : decode cX6_dweller 6 = .ok (.ifCond .eq 5, 3) := by decide +kernel
theorem dX6_dweller_9 : decode cX6_dweller 9 = .ok (.iload_n 2, 1) := by decide +kernel
theorem dX6_dweller_10 : decode cX6_dweller 10 = .ok (.ireturn, 1) := by decide +kernel
theorem dX6_dweller_11 : decode cX6_dweller 11 = .ok (.aload_n 0, 1) := by decide +kernel
theorem dX6_dweller_12 : decode cX6_dweller 12 = .ok (.getfield 12, 3) := by decide +kernel
theorem dX6_dweller_15 : decode cX6_dweller 15 = .ok (.getfield 146, 3) := by decide +kernel
theorem dX6_dweller_18 : decode cX6_dweller 18 = .ok (.aload_n 0, 1) := by decide +kernel
theorem dX6_dweller_19 : decode cX6_dweller 19 = .ok (.getfield 52, 3) := by decide +kernel
theorem dX6_dweller_22 : decode cX6_dweller 22 = .ok (.iaload, 1) := by decide +kernel
theorem dX6_dweller_23 : decode cX6_dweller 23 = .ok (.iconst (-1), 1) := by decide +kernel
theorem dX6_dweller_24 : decode cX6_dweller 24 = .ok (.if_icmp .eq 5, 3) := by decide +kernel
theorem dX6_dweller_27 : decode cX6_dweller 27 = .ok (.iconst 4, 1) := by decide +kernel
theorem dX6_dweller_28 : decode cX6_dweller 28 = .ok (.ireturn, 1) := by decide +kernel
theorem dX6_dweller_29 : decode cX6_dweller 29 = .ok (.aload_n 0, 1) := by decide +kernel
theorem dX6_dweller_30 : decode cX6_dweller 30 = .ok (.getfield 12, 3) := by decide +kernel
theorem dX6_dweller_33 : decode cX6_dweller 33 = .ok (.aload_n 0, 1) := by decide +kernel
theorem dX6_dweller_34 : decode cX6_dweller 34 = .ok (.getfield 52, 3) := by decide +kernel
theorem dX6_dweller_37 : decode cX6_dweller 37 = .ok (.iload_n 1, 1) := by decide +kernel
theorem dX6_dweller_38 : decode cX6_dweller 38 = .ok (.invokevirtual 150, 3) := by decide +kernel
theorem dX6_dweller_41 : decode cX6_dweller 41 = .ok (.aload_n 0, 1) := by decide +kernel
theorem dX6_dweller_42 : decode cX6_dweller 42 = .ok (.invokevirtual 72, 3) := by decide +kernel
theorem dX6_dweller_45 : decode cX6_dweller 45 = .ok (.iconst 0, 1) := by decide +kernel
theorem dX6_dweller_46 : decode cX6_dweller 46 = .ok (.ireturn, 1) := by decide +kernel
theorem dX6_toldPerson_0 : decode cX6_toldPerson 0 = .ok (.aload_n 0, 1) := by decide +kernel
theorem dX6_toldPerson_1 : decode cX6_toldPerson 1 = .ok (.getfield 49, 3) := by decide +kernel
theorem dX6_toldPerson_4 : decode cX6_toldPerson 4 = .ok (.iconst 2, 1) := by decide +kernel
theorem dX6_toldPerson_5 : decode cX6_toldPerson 5 = .ok (.if_icmp .eq 5, 3) := by decide +kernel
theorem dX6_toldPerson_8 : decode cX6_toldPerson 8 = .ok (.iconst 1, 1) := by decide +kernel
theorem dX6_toldPerson_9 : decode cX6_toldPerson 9 = .ok (.ireturn, 1) := by decide +kernel
theorem dX6_toldPerson_10 : decode cX6_toldPerson 10 = .ok (.aload_n 0, 1) := by decide +kernel
theorem dX6_toldPerson_11 : decode cX6_toldPerson 11 = .ok (.getfield 46, 3) := by decide +kernel
theorem dX6_toldPerson_14 : decode cX6_toldPerson 14 = .ok (.aload_n 0, 1) := by decide +kernel
theorem dX6_toldPerson_15 : decode cX6_toldPerson 15 = .ok (.getfield 43, 3) := by decide +kernel
theorem dX6_toldPerson_18 : decode cX6_toldPerson 18 = .ok (.isub, 1) := by decide +kernel
theorem dX6_toldPerson_19 : decode cX6_toldPerson 19 = .ok (.iconst 4, 1) := by decide +kernel
theorem dX6_toldPerson_20 : decode cX6_toldPerson 20 = .ok (.if_icmp .le 5, 3) := by decide +kernel
theorem dX6_toldPerson_23 : decode cX6_toldPerson 23 = .ok (.iconst 2, 1) := by decide +kernel
theorem dX6_toldPerson_24 : decode cX6_toldPerson 24 = .ok (.ireturn, 1) := by decide +kernel
theorem dX6_toldPerson_25 : decode cX6_toldPerson 25 = .ok (.aload_n 0, 1) := by decide +kernel
theorem dX6_toldPerson_26 : decode cX6_toldPerson 26 = .ok (.getfield 52, 3) := by decide +kernel
theorem dX6_toldPerson_29 : decode cX6_toldPerson 29 = .ok (.aload_n 0, 1) := by decide +kernel
theorem dX6_toldPerson_30 : decode cX6_toldPerson 30 = .ok (.getfield 12, 3) := by decide +kernel
theorem dX6_toldPerson_33 : decode cX6_toldPerson 33 = .ok (.getfield 127, 3) := by decide +kernel
theorem dX6_toldPerson_36 : decode cX6_toldPerson 36 = .ok (.if_icmp .lt 7, 3) := by decide +kernel
theorem dX6_toldPerson_39 : decode cX6_toldPerson 39 = .ok (.iconst 3, 1) := by decide +kernel
theorem dX6_toldPerson_40 : decode cX6_toldPerson 40 = .ok (.goto 4, 3) := by decide +kernel
theorem dX6_toldPerson_43 : decode cX6_toldPerson 43 = .ok (.iconst 0, 1) := by decide +kernel
theorem dX6_toldPerson_44 : decode cX6_toldPerson 44 = .ok (.ireturn, 1) := by decide +kernel
theorem dX6_friendsLine_0 : decode cX6_friendsLine 0 = .ok (.aload_n 0, 1) := by decide +kernel
theorem dX6_friendsLine_1 : decode cX6_friendsLine 1 = .ok (.getfield 21, 3) := by decide +kernel
theorem dX6_friendsLine_4 : decode cX6_friendsLine 4 = .ok (.getfield 68, 3) := by decide +kernel
theorem dX6_friendsLine_7 : decode cX6_friendsLine 7 = .ok (.bipush 12, 2) := by decide +kernel
theorem dX6_friendsLine_9 : decode cX6_friendsLine 9 = .ok (.if_icmp .lt 5, 3) := by decide +kernel
theorem dX6_friendsLine_12 : decode cX6_friendsLine 12 = .ok (.iconst 2, 1) := by decide +kernel
theorem dX6_friendsLine_13 : decode cX6_friendsLine 13 = .ok (.ireturn, 1) := by decide +kernel
theorem dX6_friendsLine_14 : decode cX6_friendsLine 14 = .ok (.aload_n 0, 1) := by decide +kernel
theorem dX6_friendsLine_15 : decode cX6_friendsLine 15 = .ok (.invokevirtual 72, 3) := by decide +kernel
theorem dX6_friendsLine_18 : decode cX6_friendsLine 18 = .ok (.aload_n 0, 1) := by decide +kernel
theorem dX6_friendsLine_19 : decode cX6_friendsLine 19 = .ok (.invokevirtual 143, 3) := by decide +kernel
theorem dX6_friendsLine_22 : decode cX6_friendsLine 22 = .ok (.istore_n 1, 1) := by decide +kernel
theorem dX6_friendsLine_23 : decode cX6_friendsLine 23 = .ok (.iload_n 1, 1) := by decide +kernel
theorem dX6_friendsLine_24 : decode cX6_friendsLine 24 = .ok (.ifCond .eq 5, 3) := by decide +kernel
theorem dX6_friendsLine_27 : decode cX6_friendsLine 27 = .ok (.iload_n 1, 1) := by decide +kernel
theorem dX6_friendsLine_28 : decode cX6_friendsLine 28 = .ok (.ireturn, 1) := by decide +kernel
theorem dX6_friendsLine_29 : decode cX6_friendsLine 29 = .ok (.aload_n 0, 1) := by decide +kernel
theorem dX6_friendsLine_30 : decode cX6_friendsLine 30 = .ok (.getfield 52, 3) := by decide +kernel
theorem dX6_friendsLine_33 : decode cX6_friendsLine 33 = .ok (.istore_n 2, 1) := by decide +kernel
theorem dX6_friendsLine_34 : decode cX6_friendsLine 34 = .ok (.aload_n 0, 1) := by decide +kernel
theorem dX6_friendsLine_35 : decode cX6_friendsLine 35 = .ok (.invokevirtual 72, 3) := by decide +kernel
theorem dX6_friendsLine_38 : decode cX6_friendsLine 38 = .ok (.aload_n 0, 1) := by decide +kernel
theorem dX6_friendsLine_39 : decode cX6_friendsLine 39 = .ok (.invokevirtual 143, 3) := by decide +kernel
theorem dX6_friendsLine_42 : decode cX6_friendsLine 42 = .ok (.istore_n 1, 1) := by decide +kernel
theorem dX6_friendsLine_43 : decode cX6_friendsLine 43 = .ok (.iload_n 1, 1) := by decide +kernel
theorem dX6_friendsLine_44 : decode cX6_friendsLine 44 = .ok (.ifCond .eq 5, 3) := by decide +kernel
theorem dX6_friendsLine_47 : decode cX6_friendsLine 47 = .ok (.iload_n 1, 1) := by decide +kernel
theorem dX6_friendsLine_48 : decode cX6_friendsLine 48 = .ok (.ireturn, 1) := by decide +kernel
theorem dX6_friendsLine_49 : decode cX6_friendsLine 49 = .ok (.aload_n 0, 1) := by decide +kernel
theorem dX6_friendsLine_50 : decode cX6_friendsLine 50 = .ok (.getfield 52, 3) := by decide +kernel
theorem dX6_friendsLine_53 : decode cX6_friendsLine 53 = .ok (.iload_n 2, 1) := by decide +kernel
theorem dX6_friendsLine_54 : decode cX6_friendsLine 54 = .ok (.if_icmp .eq 21, 3) := by decide +kernel
theorem dX6_friendsLine_57 : decode cX6_friendsLine 57 = .ok (.aload_n 0, 1) := by decide +kernel
theorem dX6_friendsLine_58 : decode cX6_friendsLine 58 = .ok (.getfield 21, 3) := by decide +kernel
theorem dX6_friendsLine_61 : decode cX6_friendsLine 61 = .ok (.iload_n 2, 1) := by decide +kernel
theorem dX6_friendsLine_62 : decode cX6_friendsLine 62 = .ok (.invokevirtual 154, 3) := by decide +kernel
theorem dX6_friendsLine_65 : decode cX6_friendsLine 65 = .ok (.aload_n 0, 1) := by decide +kernel
theorem dX6_friendsLine_66 : decode cX6_friendsLine 66 = .ok (.getfield 52, 3) := by decide +kernel
theorem dX6_friendsLine_69 : decode cX6_friendsLine 69 = .ok (.ishr, 1) := by decide +kernel
theorem dX6_friendsLine_70 : decode cX6_friendsLine 70 = .ok (.iconst 1, 1) := by decide +kernel
theorem dX6_friendsLine_71 : decode cX6_friendsLine 71 = .ok (.iand, 1) := by decide +kernel
theorem dX6_friendsLine_72 : decode cX6_friendsLine 72 = .ok (.ifCond .eq 5, 3) := by decide +kernel
theorem dX6_friendsLine_75 : decode cX6_friendsLine 75 = .ok (.iconst 4, 1) := by decide +kernel
theorem dX6_friendsLine_76 : decode cX6_friendsLine 76 = .ok (.ireturn, 1) := by decide +kernel
theorem dX6_friendsLine_77 : decode cX6_friendsLine 77 = .ok (.aload_n 0, 1) := by decide +kernel
theorem dX6_friendsLine_78 : decode cX6_friendsLine 78 = .ok (.getfield 21, 3) := by decide +kernel
theorem dX6_friendsLine_81 : decode cX6_friendsLine 81 = .ok (.iload_n 2, 1) := by decide +kernel
theorem dX6_friendsLine_82 : decode cX6_friendsLine 82 = .ok (.aload_n 0, 1) := by decide +kernel
theorem dX6_friendsLine_83 : decode cX6_friendsLine 83 = .ok (.getfield 52, 3) := by decide +kernel
theorem dX6_friendsLine_86 : decode cX6_friendsLine 86 = .ok (.invokevirtual 157, 3) := by decide +kernel
theorem dX6_friendsLine_89 : decode cX6_friendsLine 89 = .ok (.aload_n 0, 1) := by decide +kernel
theorem dX6_friendsLine_90 : decode cX6_friendsLine 90 = .ok (.invokevirtual 72, 3) := by decide +kernel
theorem dX6_friendsLine_93 : decode cX6_friendsLine 93 = .ok (.aload_n 0, 1) := by decide +kernel
theorem dX6_friendsLine_94 : decode cX6_friendsLine 94 = .ok (.invokevirtual 134, 3) := by decide +kernel
theorem dX6_friendsLine_97 : decode cX6_friendsLine 97 = .ok (.ireturn, 1) := by decide +kernel
theorem dX6_ruleLine_0 : decode cX6_ruleLine 0 = .ok (.aload_n 1, 1) := by decide +kernel
theorem dX6_ruleLine_1 : decode cX6_ruleLine 1 = .ok (.getfield 160, 3) := by decide +kernel
theorem dX6_ruleLine_4 : decode cX6_ruleLine 4 = .ok (.ifCond .eq 5, 3) := by decide +kernel
theorem dX6_ruleLine_7 : decode cX6_ruleLine 7 = .ok (.iconst 5, 1) := by decide +kernel
theorem dX6_ruleLine_8 : decode cX6_ruleLine 8 = .ok (.ireturn, 1) := by decide +kernel
theorem dX6_ruleLine_9 : decode cX6_ruleLine 9 = .ok (.aload_n 1, 1) := by decide +kernel
theorem dX6_ruleLine_10 : decode cX6_ruleLine 10 = .ok (.iconst 1, 1) := by decide +kernel
theorem dX6_ruleLine_11 : decode cX6_ruleLine 11 = .ok (.putfield 160, 3) := by decide +kernel
theorem dX6_ruleLine_14 : decode cX6_ruleLine 14 = .ok (.aload_n 0, 1) := by decide +kernel
theorem dX6_ruleLine_15 : decode cX6_ruleLine 15 = .ok (.iload_n 2, 1) := by decide +kernel
theorem dX6_ruleLine_16 : decode cX6_ruleLine 16 = .ok (.putfield 55, 3) := by decide +kernel
theorem dX6_ruleLine_19 : decode cX6_ruleLine 19 = .ok (.aload_n 0, 1) := by decide +kernel
theorem dX6_ruleLine_20 : decode cX6_ruleLine 20 = .ok (.invokevirtual 72, 3) := by decide +kernel
theorem dX6_ruleLine_23 : decode cX6_ruleLine 23 = .ok (.aload_n 0, 1) := by decide +kernel
theorem dX6_ruleLine_24 : decode cX6_ruleLine 24 = .ok (.aload_n 1, 1) := by decide +kernel
theorem dX6_ruleLine_25 : decode cX6_ruleLine 25 = .ok (.iconst 0, 1) := by decide +kernel
theorem dX6_ruleLine_26 : decode cX6_ruleLine 26 = .ok (.invokevirtual 163, 3) := by decide +kernel
theorem dX6_ruleLine_29 : decode cX6_ruleLine 29 = .ok (.istore_n 3, 1) := by decide +kernel
theorem dX6_ruleLine_30 : decode cX6_ruleLine 30 = .ok (.iload_n 3, 1) := by decide +kernel
theorem dX6_ruleLine_31 : decode cX6_ruleLine 31 = .ok (.ifCond .eq 7, 3) := by decide +kernel
theorem dX6_ruleLine_34 : decode cX6_ruleLine 34 = .ok (.iload_n 3, 1) := by decide +kernel
theorem dX6_ruleLine_35 : decode cX6_ruleLine 35 = .ok (.goto 7, 3) := by decide +kernel
theorem dX6_ruleLine_38 : decode cX6_ruleLine 38 = .ok (.aload_n 0, 1) := by decide +kernel
theorem dX6_ruleLine_39 : decode cX6_ruleLine 39 = .ok (.invokevirtual 134, 3) := by decide +kernel
theorem dX6_ruleLine_42 : decode cX6_ruleLine 42 = .ok (.ireturn, 1) := by decide +kernel
theorem dX6_expr_0 : decode cX6_expr 0 = .ok (.iload_n 2, 1) := by decide +kernel
theorem dX6_expr_1 : decode cX6_expr 1 = .ok (.bipush 6, 2) := by decide +kernel
theorem dX6_expr_3 : decode cX6_expr 3 = .ok (.if_icmp .lt 30, 3) := by decide +kernel
theorem dX6_expr_6 : decode cX6_expr 6 = .ok (.aload_n 0, 1) := by decide +kernel
theorem dX6_expr_7 : decode cX6_expr 7 = .ok (.getfield 49, 3) := by decide +kernel
theorem dX6_expr_10 : decode cX6_expr 10 = .ok (.iconst 2, 1) := by decide +kernel
theorem dX6_expr_11 : decode cX6_expr 11 = .ok (.if_icmp .eq 20, 3) := by decide +kernel
theorem dX6_expr_14 : decode cX6_expr 14 = .ok (.aload_n 0, 1) := by decide +kernel
theorem dX6_expr_15 : decode cX6_expr 15 = .ok (.getfield 49, 3) := by decide +kernel
theorem dX6_expr_18 : decode cX6_expr 18 = .ok (.iconst 1, 1) := by decide +kernel
theorem dX6_expr_19 : decode cX6_expr 19 = .ok (.if_icmp .eq 12, 3) := by decide +kernel
theorem dX6_expr_22 : decode cX6_expr 22 = .ok (.aload_n 0, 1) := by decide +kernel
theorem dX6_expr_23 : decode cX6_expr 23 = .ok (.getfield 49, 3) := by decide +kernel
theorem dX6_expr_26 : decode cX6_expr 26 = .ok (.bipush 40, 2) := by decide +kernel
theorem dX6_expr_28 : decode cX6_expr 28 = .ok (.if_icmp .ne 5, 3) := by decide +kernel
theorem dX6_expr_31 : decode cX6_expr 31 = .ok (.iconst 2, 1) := by decide +kernel
theorem dX6_expr_32 : decode cX6_expr 32 = .ok (.ireturn, 1) := by decide +kernel
theorem dX6_expr_33 : decode cX6_expr 33 = .ok (.aload_n 0, 1) := by decide +kernel
theorem dX6_expr_34 : decode cX6_expr 34 = .ok (.aload_n 1, 1) := by decide +kernel
theorem dX6_expr_35 : decode cX6_expr 35 = .ok (.iload_n 2, 1) := by decide +kernel
theorem dX6_expr_36 : decode cX6_expr 36 = .ok (.invokevirtual 167, 3) := by decide +kernel
theorem dX6_expr_39 : decode cX6_expr 39 = .ok (.istore_n 3, 1) := by decide +kernel
theorem dX6_expr_40 : decode cX6_expr 40 = .ok (.iconst 0, 1) := by decide +kernel
theorem dX6_expr_41 : decode cX6_expr 41 = .ok (.istore 4, 2) := by decide +kernel
theorem dX6_expr_43 : decode cX6_expr 43 = .ok (.iload 4, 2) := by decide +kernel
theorem dX6_expr_45 : decode cX6_expr 45 = .ok (.aload_n 0, 1) := by decide +kernel
theorem dX6_expr_46 : decode cX6_expr 46 = .ok (.getfield 39, 3) := by decide +kernel
theorem dX6_expr_49 : decode cX6_expr 49 = .ok (.if_icmp .ge 40, 3) := by decide +kernel
theorem dX6_expr_52 : decode cX6_expr 52 = .ok (.iload_n 3, 1) := by decide +kernel
theorem dX6_expr_53 : decode cX6_expr 53 = .ok (.ifCond .ne 36, 3) := by decide +kernel
theorem dX6_expr_56 : decode cX6_expr 56 = .ok (.aload_n 0, 1) := by decide +kernel
theorem dX6_expr_57 : decode cX6_expr 57 = .ok (.ldc 170, 2) := by decide +kernel
theorem dX6_expr_59 : decode cX6_expr 59 = .ok (.invokevirtual 105, 3) := by decide +kernel
theorem dX6_expr_62 : decode cX6_expr 62 = .ok (.ifCond .eq 27, 3) := by decide +kernel
theorem dX6_expr_65 : decode cX6_expr 65 = .ok (.aload_n 0, 1) := by decide +kernel
theorem dX6_expr_66 : decode cX6_expr 66 = .ok (.invokevirtual 72, 3) := by decide +kernel
theorem dX6_expr_69 : decode cX6_expr 69 = .ok (.aload_n 0, 1) := by decide +kernel
theorem dX6_expr_70 : decode cX6_expr 70 = .ok (.aload_n 1, 1) := by decide +kernel
theorem dX6_expr_71 : decode cX6_expr 71 = .ok (.iload_n 2, 1) := by decide +kernel
theorem dX6_expr_72 : decode cX6_expr 72 = .ok (.invokevirtual 167, 3) := by decide +kernel
theorem dX6_expr_75 : decode cX6_expr 75 = .ok (.istore_n 3, 1) := by decide +kernel
theorem dX6_expr_76 : decode cX6_expr 76 = .ok (.aload_n 1, 1) := by decide +kernel
theorem dX6_expr_77 : decode cX6_expr 77 = .ok (.sipush 20124, 3) := by decide +kernel
theorem dX6_expr_80 : decode cX6_expr 80 = .ok (.invokevirtual 172, 3) := by decide +kernel
theorem dX6_expr_83 : decode cX6_expr 83 = .ok (.iinc 4 1, 3) := by decide +kernel
theorem dX6_expr_86 : decode cX6_expr 86 = .ok (.goto (-43), 3) := by decide +kernel
theorem dX6_expr_89 : decode cX6_expr 89 = .ok (.iload_n 3, 1) := by decide +kernel
theorem dX6_expr_90 : decode cX6_expr 90 = .ok (.ireturn, 1) := by decide +kernel
theorem dX6_andPart_0 : decode cX6_andPart 0 = .ok (.aload_n 0, 1) := by decide +kernel
theorem dX6_andPart_1 : decode cX6_andPart 1 = .ok (.aload_n 1, 1) := by decide +kernel
theorem dX6_andPart_2 : decode cX6_andPart 2 = .ok (.iload_n 2, 1) := by decide +kernel
theorem dX6_andPart_3 : decode cX6_andPart 3 = .ok (.invokevirtual 174, 3) := by decide +kernel
theorem dX6_andPart_6 : decode cX6_andPart 6 = .ok (.istore_n 3, 1) := by decide +kernel
theorem dX6_andPart_7 : decode cX6_andPart 7 = .ok (.iconst 0, 1) := by decide +kernel
theorem dX6_andPart_8 : decode cX6_andPart 8 = .ok (.istore 4, 2) := by decide +kernel
theorem dX6_andPart_10 : decode cX6_andPart 10 = .ok (.iload 4, 2) := by decide +kernel
theorem dX6_andPart_12 : decode cX6_andPart 12 = .ok (.aload_n 0, 1) := by decide +kernel
theorem dX6_andPart_13 : decode cX6_andPart 13 = .ok (.getfield 39, 3) := by decide +kernel
theorem dX6_andPart_16 : decode cX6_andPart 16 = .ok (.if_icmp .ge 40, 3) := by decide +kernel
theorem dX6_andPart_19 : decode cX6_andPart 19 = .ok (.iload_n 3, 1) := by decide +kernel
theorem dX6_andPart_20 : decode cX6_andPart 20 = .ok (.ifCond .ne 36, 3) := by decide +kernel
theorem dX6_andPart_23 : decode cX6_andPart 23 = .ok (.aload_n 0, 1) := by decide +kernel
theorem dX6_andPart_24 : decode cX6_andPart 24 = .ok (.ldc 177, 2) := by decide +kernel
theorem dX6_andPart_26 : decode cX6_andPart 26 = .ok (.invokevirtual 105, 3) := by decide +kernel
theorem dX6_andPart_29 : decode cX6_andPart 29 = .ok (.ifCond .eq 27, 3) := by decide +kernel
theorem dX6_andPart_32 : decode cX6_andPart 32 = .ok (.aload_n 0, 1) := by decide +kernel
theorem dX6_andPart_33 : decode cX6_andPart 33 = .ok (.invokevirtual 72, 3) := by decide +kernel
theorem dX6_andPart_36 : decode cX6_andPart 36 = .ok (.aload_n 0, 1) := by decide +kernel
theorem dX6_andPart_37 : decode cX6_andPart 37 = .ok (.aload_n 1, 1) := by decide +kernel
theorem dX6_andPart_38 : decode cX6_andPart 38 = .ok (.iload_n 2, 1) := by decide +kernel
theorem dX6_andPart_39 : decode cX6_andPart 39 = .ok (.invokevirtual 174, 3) := by decide +kernel
theorem dX6_andPart_42 : decode cX6_andPart 42 = .ok (.istore_n 3, 1) := by decide +kernel
theorem dX6_andPart_43 : decode cX6_andPart 43 = .ok (.aload_n 1, 1) := by decide +kernel
theorem dX6_andPart_44 : decode cX6_andPart 44 = .ok (.sipush 20038, 3) := by decide +kernel
theorem dX6_andPart_47 : decode cX6_andPart 47 = .ok (.invokevirtual 172, 3) := by decide +kernel
theorem dX6_andPart_50 : decode cX6_andPart 50 = .ok (.iinc 4 1, 3) := by decide +kernel
theorem dX6_andPart_53 : decode cX6_andPart 53 = .ok (.goto (-43), 3) := by decide +kernel
theorem dX6_andPart_56 : decode cX6_andPart 56 = .ok (.iload_n 3, 1) := by decide +kernel
theorem dX6_andPart_57 : decode cX6_andPart 57 = .ok (.ireturn, 1) := by decide +kernel
theorem dX6_notPart_0 : decode cX6_notPart 0 = .ok (.iconst 0, 1) := by decide +kernel
theorem dX6_notPart_1 : decode cX6_notPart 1 = .ok (.istore_n 3, 1) := by decide +kernel
theorem dX6_notPart_2 : decode cX6_notPart 2 = .ok (.iconst 0, 1) := by decide +kernel
theorem dX6_notPart_3 : decode cX6_notPart 3 = .ok (.istore 4, 2) := by decide +kernel
theorem dX6_notPart_5 : decode cX6_notPart 5 = .ok (.iload 4, 2) := by decide +kernel
theorem dX6_notPart_7 : decode cX6_notPart 7 = .ok (.aload_n 0, 1) := by decide +kernel
theorem dX6_notPart_8 : decode cX6_notPart 8 = .ok (.getfield 39, 3) := by decide +kernel
theorem dX6_notPart_11 : decode cX6_notPart 11 = .ok (.if_icmp .ge 33, 3) := by decide +kernel
theorem dX6_notPart_14 : decode cX6_notPart 14 = .ok (.aload_n 0, 1) := by decide +kernel
theorem dX6_notPart_15 : decode cX6_notPart 15 = .ok (.ldc 179, 2) := by decide +kernel
theorem dX6_notPart_17 : decode cX6_notPart 17 = .ok (.invokevirtual 105, 3) := by decide +kernel
theorem dX6_notPart_20 : decode cX6_notPart 20 = .ok (.ifCond .eq 24, 3) := by decide +kernel
theorem dX6_notPart_23 : decode cX6_notPart 23 = .ok (.iload_n 3, 1) := by decide +kernel
theorem dX6_notPart_24 : decode cX6_notPart 24 = .ok (.bipush 6, 2) := by decide +kernel
theorem dX6_notPart_26 : decode cX6_notPart 26 = .ok (.if_icmp .lt 5, 3) := by decide +kernel
theorem dX6_notPart_29 : decode cX6_notPart 29 = .ok (.iconst 2, 1) := by decide +kernel
theorem dX6_notPart_30 : decode cX6_notPart 30 = .ok (.ireturn, 1) := by decide +kernel
theorem dX6_notPart_31 : decode cX6_notPart 31 = .ok (.iinc 3 1, 3) := by decide +kernel
theorem dX6_notPart_34 : decode cX6_notPart 34 = .ok (.aload_n 0, 1) := by decide +kernel
theorem dX6_notPart_35 : decode cX6_notPart 35 = .ok (.invokevirtual 72, 3) := by decide +kernel
theorem dX6_notPart_38 : decode cX6_notPart 38 = .ok (.iinc 4 1, 3) := by decide +kernel
theorem dX6_notPart_41 : decode cX6_notPart 41 = .ok (.goto (-36), 3) := by decide +kernel
theorem dX6_notPart_44 : decode cX6_notPart 44 = .ok (.aload_n 0, 1) := by decide +kernel
theorem dX6_notPart_45 : decode cX6_notPart 45 = .ok (.aload_n 1, 1) := by decide +kernel
theorem dX6_notPart_46 : decode cX6_notPart 46 = .ok (.iload_n 2, 1) := by decide +kernel
theorem dX6_notPart_47 : decode cX6_notPart 47 = .ok (.invokevirtual 181, 3) := by decide +kernel
theorem dX6_notPart_50 : decode cX6_notPart 50 = .ok (.istore 4, 2) := by decide +kernel
theorem dX6_notPart_52 : decode cX6_notPart 52 = .ok (.iload 4, 2) := by decide +kernel
theorem dX6_notPart_54 : decode cX6_notPart 54 = .ok (.ifCond .ne 49, 3) := by decide +kernel
theorem dX6_notPart_57 : decode cX6_notPart 57 = .ok (.aload_n 0, 1) := by decide +kernel
theorem dX6_notPart_58 : decode cX6_notPart 58 = .ok (.getfield 49, 3) := by decide +kernel
theorem dX6_notPart_61 : decode cX6_notPart 61 = .ok (.bipush 60, 2) := by decide +kernel
theorem dX6_notPart_63 : decode cX6_notPart 63 = .ok (.if_icmp .eq 12, 3) := by decide +kernel
theorem dX6_notPart_66 : decode cX6_notPart 66 = .ok (.aload_n 0, 1) := by decide +kernel
theorem dX6_notPart_67 : decode cX6_notPart 67 = .ok (.getfield 49, 3) := by decide +kernel
theorem dX6_notPart_70 : decode cX6_notPart 70 = .ok (.bipush 61, 2) := by decide +kernel
theorem dX6_notPart_72 : decode cX6_notPart 72 = .ok (.if_icmp .ne 31, 3) := by decide +kernel
theorem dX6_notPart_75 : decode cX6_notPart 75 = .ok (.aload_n 0, 1) := by decide +kernel
theorem dX6_notPart_76 : decode cX6_notPart 76 = .ok (.getfield 49, 3) := by decide +kernel
theorem dX6_notPart_79 : decode cX6_notPart 79 = .ok (.istore 5, 2) := by decide +kernel
theorem dX6_notPart_81 : decode cX6_notPart 81 = .ok (.aload_n 0, 1) := by decide +kernel
theorem dX6_notPart_82 : decode cX6_notPart 82 = .ok (.invokevirtual 72, 3) := by decide +kernel
theorem dX6_notPart_85 : decode cX6_notPart 85 = .ok (.aload_n 0, 1) := by decide +kernel
theorem dX6_notPart_86 : decode cX6_notPart 86 = .ok (.aload_n 1, 1) := by decide +kernel
theorem dX6_notPart_87 : decode cX6_notPart 87 = .ok (.iload_n 2, 1) := by decide +kernel
theorem dX6_notPart_88 : decode cX6_notPart 88 = .ok (.invokevirtual 181, 3) := by decide +kernel
theorem dX6_notPart_91 : decode cX6_notPart 91 = .ok (.istore 4, 2) := by decide +kernel
theorem dX6_notPart_93 : decode cX6_notPart 93 = .ok (.aload_n 1, 1) := by decide +kernel
theorem dX6_notPart_94 : decode cX6_notPart 94 = .ok (.sipush 20000, 3) := by decide +kernel
theorem dX6_notPart_97 : decode cX6_notPart 97 = .ok (.iload 5, 2) := by decide +kernel
theorem dX6_notPart_99 : decode cX6_notPart 99 = .ok (.iadd, 1) := by decide +kernel
theorem dX6_notPart_100 : decode cX6_notPart 100 = .ok (.invokevirtual 172, 3) := by decide +kernel
theorem dX6_notPart_103 : decode cX6_notPart 103 = .ok (.iconst 0, 1) := by decide +kernel
theorem dX6_notPart_104 : decode cX6_notPart 104 = .ok (.istore 5, 2) := by decide +kernel
theorem dX6_notPart_106 : decode cX6_notPart 106 = .ok (.iload 5, 2) := by decide +kernel
theorem dX6_notPart_108 : decode cX6_notPart 108 = .ok (.iload_n 3, 1) := by decide +kernel
theorem dX6_notPart_109 : decode cX6_notPart 109 = .ok (.if_icmp .ge 16, 3) := by decide +kernel
theorem dX6_notPart_112 : decode cX6_notPart 112 = .ok (.aload_n 1, 1) := by decide +kernel
theorem dX6_notPart_113 : decode cX6_notPart 113 = .ok (.sipush 20033, 3) := by decide +kernel
theorem dX6_notPart_116 : decode cX6_notPart 116 = .ok (.invokevirtual 172, 3) := by decide +kernel
theorem dX6_notPart_119 : decode cX6_notPart 119 = .ok (.iinc 5 1, 3) := by decide +kernel
theorem dX6_notPart_122 : decode cX6_notPart 122 = .ok (.goto (-16), 3) := by decide +kernel
theorem dX6_notPart_125 : decode cX6_notPart 125 = .ok (.iload 4, 2) := by decide +kernel
theorem dX6_notPart_127 : decode cX6_notPart 127 = .ok (.ireturn, 1) := by decide +kernel
theorem dX6_sum_0 : decode cX6_sum 0 = .ok (.aload_n 0, 1) := by decide +kernel
theorem dX6_sum_1 : decode cX6_sum 1 = .ok (.aload_n 1, 1) := by decide +kernel
theorem dX6_sum_2 : decode cX6_sum 2 = .ok (.iload_n 2, 1) := by decide +kernel
theorem dX6_sum_3 : decode cX6_sum 3 = .ok (.invokevirtual 184, 3) := by decide +kernel
theorem dX6_sum_6 : decode cX6_sum 6 = .ok (.istore_n 3, 1) := by decide +kernel
theorem dX6_sum_7 : decode cX6_sum 7 = .ok (.iconst 0, 1) := by decide +kernel
theorem dX6_sum_8 : decode cX6_sum 8 = .ok (.istore 4, 2) := by decide +kernel
theorem dX6_sum_10 : decode cX6_sum 10 = .ok (.iload 4, 2) := by decide +kernel
theorem dX6_sum_12 : decode cX6_sum 12 = .ok (.aload_n 0, 1) := by decide +kernel
theorem dX6_sum_13 : decode cX6_sum 13 = .ok (.getfield 39, 3) := by decide +kernel
theorem dX6_sum_16 : decode cX6_sum 16 = .ok (.if_icmp .ge 58, 3) := by decide +kernel
theorem dX6_sum_19 : decode cX6_sum 19 = .ok (.iload_n 3, 1) := by decide +kernel
theorem dX6_sum_20 : decode cX6_sum 20 = .ok (.ifCond .ne 54, 3) := by decide +kernel
theorem dX6_sum_23 : decode cX6_sum 23 = .ok (.aload_n 0, 1) := by decide +kernel
theorem dX6_sum_24 : decode cX6_sum 24 = .ok (.getfield 49, 3) := by decide +kernel
theorem dX6_sum_27 : decode cX6_sum 27 = .ok (.bipush 43, 2) := by decide +kernel
theorem dX6_sum_29 : decode cX6_sum 29 = .ok (.if_icmp .eq 12, 3) := by decide +kernel
theorem dX6_sum_32 : decode cX6_sum 32 = .ok (.aload_n 0, 1) := by decide +kernel
theorem dX6_sum_33 : decode cX6_sum 33 = .ok (.getfield 49, 3) := by decide +kernel
theorem dX6_sum_36 : decode cX6_sum 36 = .ok (.bipush 45, 2) := by decide +kernel
theorem dX6_sum_38 : decode cX6_sum 38 = .ok (.if_icmp .ne 36, 3) := by decide +kernel
theorem dX6_sum_41 : decode cX6_sum 41 = .ok (.aload_n 0, 1) := by decide +kernel
theorem dX6_sum_42 : decode cX6_sum 42 = .ok (.getfield 49, 3) := by decide +kernel
theorem dX6_sum_45 : decode cX6_sum 45 = .ok (.istore 5, 2) := by decide +kernel
theorem dX6_sum_47 : decode cX6_sum 47 = .ok (.aload_n 0, 1) := by decide +kernel
theorem dX6_sum_48 : decode cX6_sum 48 = .ok (.invokevirtual 72, 3) := by decide +kernel
theorem dX6_sum_51 : decode cX6_sum 51 = .ok (.aload_n 0, 1) := by decide +kernel
theorem dX6_sum_52 : decode cX6_sum 52 = .ok (.aload_n 1, 1) := by decide +kernel
theorem dX6_sum_53 : decode cX6_sum 53 = .ok (.iload_n 2, 1) := by decide +kernel
theorem dX6_sum_54 : decode cX6_sum 54 = .ok (.invokevirtual 184, 3) := by decide +kernel
theorem dX6_sum_57 : decode cX6_sum 57 = .ok (.istore_n 3, 1) := by decide +kernel
theorem dX6_sum_58 : decode cX6_sum 58 = .ok (.aload_n 1, 1) := by decide +kernel
theorem dX6_sum_59 : decode cX6_sum 59 = .ok (.sipush 20000, 3) := by decide +kernel
theorem dX6_sum_62 : decode cX6_sum 62 = .ok (.iload 5, 2) := by decide +kernel
theorem dX6_sum_64 : decode cX6_sum 64 = .ok (.iadd, 1) := by decide +kernel
theorem dX6_sum_65 : decode cX6_sum 65 = .ok (.invokevirtual 172, 3) := by decide +kernel
theorem dX6_sum_68 : decode cX6_sum 68 = .ok (.iinc 4 1, 3) := by decide +kernel
theorem dX6_sum_71 : decode cX6_sum 71 = .ok (.goto (-61), 3) := by decide +kernel
theorem dX6_sum_74 : decode cX6_sum 74 = .ok (.iload_n 3, 1) := by decide +kernel
theorem dX6_sum_75 : decode cX6_sum 75 = .ok (.ireturn, 1) := by decide +kernel
theorem dX6_product_0 : decode cX6_product 0 = .ok (.aload_n 0, 1) := by decide +kernel
theorem dX6_product_1 : decode cX6_product 1 = .ok (.aload_n 1, 1) := by decide +kernel
theorem dX6_product_2 : decode cX6_product 2 = .ok (.iload_n 2, 1) := by decide +kernel
theorem dX6_product_3 : decode cX6_product 3 = .ok (.invokevirtual 187, 3) := by decide +kernel
theorem dX6_product_6 : decode cX6_product 6 = .ok (.istore_n 3, 1) := by decide +kernel
theorem dX6_product_7 : decode cX6_product 7 = .ok (.iconst 0, 1) := by decide +kernel
theorem dX6_product_8 : decode cX6_product 8 = .ok (.istore 4, 2) := by decide +kernel
theorem dX6_product_10 : decode cX6_product 10 = .ok (.iload 4, 2) := by decide +kernel
theorem dX6_product_12 : decode cX6_product 12 = .ok (.aload_n 0, 1) := by decide +kernel
theorem dX6_product_13 : decode cX6_product 13 = .ok (.getfield 39, 3) := by decide +kernel
theorem dX6_product_16 : decode cX6_product 16 = .ok (.if_icmp .ge 58, 3) := by decide +kernel
theorem dX6_product_19 : decode cX6_product 19 = .ok (.iload_n 3, 1) := by decide +kernel
theorem dX6_product_20 : decode cX6_product 20 = .ok (.ifCond .ne 54, 3) := by decide +kernel
theorem dX6_product_23 : decode cX6_product 23 = .ok (.aload_n 0, 1) := by decide +kernel
theorem dX6_product_24 : decode cX6_product 24 = .ok (.getfield 49, 3) := by decide +kernel
theorem dX6_product_27 : decode cX6_product 27 = .ok (.bipush 42, 2) := by decide +kernel
theorem dX6_product_29 : decode cX6_product 29 = .ok (.if_icmp .eq 12, 3) := by decide +kernel
theorem dX6_product_32 : decode cX6_product 32 = .ok (.aload_n 0, 1) := by decide +kernel
theorem dX6_product_33 : decode cX6_product 33 = .ok (.getfield 49, 3) := by decide +kernel
theorem dX6_product_36 : decode cX6_product 36 = .ok (.bipush 47, 2) := by decide +kernel
theorem dX6_product_38 : decode cX6_product 38 = .ok (.if_icmp .ne 36, 3) := by decide +kernel
theorem dX6_product_41 : decode cX6_product 41 = .ok (.aload_n 0, 1) := by decide +kernel
theorem dX6_product_42 : decode cX6_product 42 = .ok (.getfield 49, 3) := by decide +kernel
theorem dX6_product_45 : decode cX6_product 45 = .ok (.istore 5, 2) := by decide +kernel
theorem dX6_product_47 : decode cX6_product 47 = .ok (.aload_n 0, 1) := by decide +kernel
theorem dX6_product_48 : decode cX6_product 48 = .ok (.invokevirtual 72, 3) := by decide +kernel
theorem dX6_product_51 : decode cX6_product 51 = .ok (.aload_n 0, 1) := by decide +kernel
theorem dX6_product_52 : decode cX6_product 52 = .ok (.aload_n 1, 1) := by decide +kernel
theorem dX6_product_53 : decode cX6_product 53 = .ok (.iload_n 2, 1) := by decide +kernel
theorem dX6_product_54 : decode cX6_product 54 = .ok (.invokevirtual 187, 3) := by decide +kernel
theorem dX6_product_57 : decode cX6_product 57 = .ok (.istore_n 3, 1) := by decide +kernel
theorem dX6_product_58 : decode cX6_product 58 = .ok (.aload_n 1, 1) := by decide +kernel
theorem dX6_product_59 : decode cX6_product 59 = .ok (.sipush 20000, 3) := by decide +kernel
theorem dX6_product_62 : decode cX6_product 62 = .ok (.iload 5, 2) := by decide +kernel
theorem dX6_product_64 : decode cX6_product 64 = .ok (.iadd, 1) := by decide +kernel
theorem dX6_product_65 : decode cX6_product 65 = .ok (.invokevirtual 172, 3) := by decide +kernel
theorem dX6_product_68 : decode cX6_product 68 = .ok (.iinc 4 1, 3) := by decide +kernel
theorem dX6_product_71 : decode cX6_product 71 = .ok (.goto (-61), 3) := by decide +kernel
theorem dX6_product_74 : decode cX6_product 74 = .ok (.iload_n 3, 1) := by decide +kernel
theorem dX6_product_75 : decode cX6_product 75 = .ok (.ireturn, 1) := by decide +kernel
theorem dX6_part_0 : decode cX6_part 0 = .ok (.aload_n 0, 1) := by decide +kernel
theorem dX6_part_1 : decode cX6_part 1 = .ok (.getfield 49, 3) := by decide +kernel
theorem dX6_part_4 : decode cX6_part 4 = .ok (.bipush 40, 2) := by decide +kernel
theorem dX6_part_6 : decode cX6_part 6 = .ok (.if_icmp .ne 40, 3) := by decide +kernel
theorem dX6_part_9 : decode cX6_part 9 = .ok (.aload_n 0, 1) := by decide +kernel
theorem dX6_part_10 : decode cX6_part 10 = .ok (.invokevirtual 72, 3) := by decide +kernel
theorem dX6_part_13 : decode cX6_part 13 = .ok (.aload_n 0, 1) := by decide +kernel
theorem dX6_part_14 : decode cX6_part 14 = .ok (.aload_n 1, 1) := by decide +kernel
theorem dX6_part_15 : decode cX6_part 15 = .ok (.iload_n 2, 1) := by decide +kernel
theorem dX6_part_16 : decode cX6_part 16 = .ok (.iconst 1, 1) := by decide +kernel
theorem dX6_part_17 : decode cX6_part 17 = .ok (.iadd, 1) := by decide +kernel
theorem dX6_part_18 : decode cX6_part 18 = .ok (.invokevirtual 163, 3) := by decide +kernel
theorem dX6_part_21 : decode cX6_part 21 = .ok (.istore_n 3, 1) := by decide +kernel
theorem dX6_part_22 : decode cX6_part 22 = .ok (.iload_n 3, 1) := by decide +kernel
theorem dX6_part_23 : decode cX6_part 23 = .ok (.ifCond .ne 14, 3) := by decide +kernel
theorem dX6_part_26 : decode cX6_part 26 = .ok (.aload_n 0, 1) := by decide +kernel
theorem dX6_part_27 : decode cX6_part 27 = .ok (.getfield 49, 3) := by decide +kernel
theorem dX6_part_30 : decode cX6_part 30 = .ok (.bipush 41, 2) := by decide +kernel
theorem dX6_part_32 : decode cX6_part 32 = .ok (.if_icmp .eq 5, 3) := by decide +kernel
theorem dX6_part_35 : decode cX6_part 35 = .ok (.iconst 1, 1) := by decide +kernel
theorem dX6_part_36 : decode cX6_part 36 = .ok (.istore_n 3, 1) := by decide +kernel
theorem dX6_part_37 : decode cX6_part 37 = .ok (.iload_n 3, 1) := by decide +kernel
theorem dX6_part_38 : decode cX6_part 38 = .ok (.ifCond .eq 5, 3) := by decide +kernel
theorem dX6_part_41 : decode cX6_part 41 = .ok (.iload_n 3, 1) := by decide +kernel
theorem dX6_part_42 : decode cX6_part 42 = .ok (.ireturn, 1) := by decide +kernel
theorem dX6_part_43 : decode cX6_part 43 = .ok (.goto 71, 3) := by decide +kernel
theorem dX6_part_46 : decode cX6_part 46 = .ok (.aload_n 0, 1) := by decide +kernel
theorem dX6_part_47 : decode cX6_part 47 = .ok (.getfield 49, 3) := by decide +kernel
theorem dX6_part_50 : decode cX6_part 50 = .ok (.iconst 2, 1) := by decide +kernel
theorem dX6_part_51 : decode cX6_part 51 = .ok (.if_icmp .ne 29, 3) := by decide +kernel
theorem dX6_part_54 : decode cX6_part 54 = .ok (.aload_n 0, 1) := by decide +kernel
theorem dX6_part_55 : decode cX6_part 55 = .ok (.getfield 46, 3) := by decide +kernel
theorem dX6_part_58 : decode cX6_part 58 = .ok (.aload_n 0, 1) := by decide +kernel
theorem dX6_part_59 : decode cX6_part 59 = .ok (.getfield 43, 3) := by decide +kernel
theorem dX6_part_62 : decode cX6_part 62 = .ok (.isub, 1) := by decide +kernel
theorem dX6_part_63 : decode cX6_part 63 = .ok (.iconst 4, 1) := by decide +kernel
theorem dX6_part_64 : decode cX6_part 64 = .ok (.if_icmp .le 5, 3) := by decide +kernel
theorem dX6_part_67 : decode cX6_part 67 = .ok (.iconst 2, 1) := by decide +kernel
theorem dX6_part_68 : decode cX6_part 68 = .ok (.ireturn, 1) := by decide +kernel
theorem dX6_part_69 : decode cX6_part 69 = .ok (.aload_n 1, 1) := by decide +kernel
theorem dX6_part_70 : decode cX6_part 70 = .ok (.aload_n 0, 1) := by decide +kernel
theorem dX6_part_71 : decode cX6_part 71 = .ok (.getfield 52, 3) := by decide +kernel
theorem dX6_part_74 : decode cX6_part 74 = .ok (.invokevirtual 172, 3) := by decide +kernel
theorem dX6_part_77 : decode cX6_part 77 = .ok (.goto 37, 3) := by decide +kernel
theorem dX6_part_80 : decode cX6_part 80 = .ok (.aload_n 0, 1) := by decide +kernel
theorem dX6_part_81 : decode cX6_part 81 = .ok (.getfield 49, 3) := by decide +kernel
theorem dX6_part_84 : decode cX6_part 84 = .ok (.iconst 1, 1) := by decide +kernel
theorem dX6_part_85 : decode cX6_part 85 = .ok (.if_icmp .ne 27, 3) := by decide +kernel
theorem dX6_part_88 : decode cX6_part 88 = .ok (.aload_n 0, 1) := by decide +kernel
theorem dX6_part_89 : decode cX6_part 89 = .ok (.invokevirtual 190, 3) := by decide +kernel
theorem dX6_part_92 : decode cX6_part 92 = .ok (.istore_n 3, 1) := by decide +kernel
theorem dX6_part_93 : decode cX6_part 93 = .ok (.iload_n 3, 1) := by decide +kernel
theorem dX6_part_94 : decode cX6_part 94 = .ok (.iconst (-1), 1) := by decide +kernel
theorem dX6_part_95 : decode cX6_part 95 = .ok (.if_icmp .ne 5, 3) := by decide +kernel
theorem dX6_part_98 : decode cX6_part 98 = .ok (.iconst 3, 1) := by decide +kernel
theorem dX6_part_99 : decode cX6_part 99 = .ok (.ireturn, 1) := by decide +kernel
theorem dX6_part_100 : decode cX6_part 100 = .ok (.aload_n 1, 1) := by decide +kernel
theorem dX6_part_101 : decode cX6_part 101 = .ok (.sipush 10000, 3) := by decide +kernel
theorem dX6_part_104 : decode cX6_part 104 = .ok (.iload_n 3, 1) := by decide +kernel
theorem dX6_part_105 : decode cX6_part 105 = .ok (.iadd, 1) := by decide +kernel
theorem dX6_part_106 : decode cX6_part 106 = .ok (.invokevirtual 172, 3) := by decide +kernel
theorem dX6_part_109 : decode cX6_part 109 = .ok (.goto 5, 3) := by decide +kernel
theorem dX6_part_112 : decode cX6_part 112 = .ok (.iconst 1, 1) := by decide +kernel
theorem dX6_part_113 : decode cX6_part 113 = .ok (.ireturn, 1) := by decide +kernel
theorem dX6_part_114 : decode cX6_part 114 = .ok (.aload_n 0, 1) := by decide +kernel
theorem dX6_part_115 : decode cX6_part 115 = .ok (.invokevirtual 72, 3) := by decide +kernel
theorem dX6_part_118 : decode cX6_part 118 = .ok (.iconst 0, 1) := by decide +kernel
theorem dX6_part_119 : decode cX6_part 119 = .ok (.ireturn, 1) := by decide +kernel
theorem dX6_valueAsked_0 : decode cX6_valueAsked 0 = .ok (.aload_n 0, 1) := by decide +kernel
theorem dX6_valueAsked_1 : decode cX6_valueAsked 1 = .ok (.ldc 193, 2) := by decide +kernel
theorem dX6_valueAsked_3 : decode cX6_valueAsked 3 = .ok (.invokevirtual 105, 3) := by decide +kernel
theorem dX6_valueAsked_6 : decode cX6_valueAsked 6 = .ok (.ifCond .eq 5, 3) := by decide +kernel
theorem dX6_valueAsked_9 : decode cX6_valueAsked 9 = .ok (.iconst 4, 1) := by decide +kernel
theorem dX6_valueAsked_10 : decode cX6_valueAsked 10 = .ok (.ireturn, 1) := by decide +kernel
theorem dX6_valueAsked_11 : decode cX6_valueAsked 11 = .ok (.aload_n 0, 1) := by decide +kernel
theorem dX6_valueAsked_12 : decode cX6_valueAsked 12 = .ok (.ldc 195, 2) := by decide +kernel
theorem dX6_valueAsked_14 : decode cX6_valueAsked 14 = .ok (.invokevirtual 105, 3) := by decide +kernel
theorem dX6_valueAsked_17 : decode cX6_valueAsked 17 = .ok (.ifCond .eq 5, 3) := by decide +kernel
theorem dX6_valueAsked_20 : decode cX6_valueAsked 20 = .ok (.iconst 5, 1) := by decide +kernel
theorem dX6_valueAsked_21 : decode cX6_valueAsked 21 = .ok (.ireturn, 1) := by decide +kernel
theorem dX6_valueAsked_22 : decode cX6_valueAsked 22 = .ok (.aload_n 0, 1) := by decide +kernel
theorem dX6_valueAsked_23 : decode cX6_valueAsked 23 = .ok (.getfield 55, 3) := by decide +kernel
theorem dX6_valueAsked_26 : decode cX6_valueAsked 26 = .ok (.ifCond .eq 57, 3) := by decide +kernel
theorem dX6_valueAsked_29 : decode cX6_valueAsked 29 = .ok (.aload_n 0, 1) := by decide +kernel
theorem dX6_valueAsked_30 : decode cX6_valueAsked 30 = .ok (.ldc 197, 2) := by decide +kernel
theorem dX6_valueAsked_32 : decode cX6_valueAsked 32 = .ok (.invokevirtual 105, 3) := by decide +kernel
theorem dX6_valueAsked_35 : decode cX6_valueAsked 35 = .ok (.ifCond .eq 7, 3) := by decide +kernel
theorem dX6_valueAsked_38 : decode cX6_valueAsked 38 = .ok (.iconst 0, 1) := by decide +kernel
theorem dX6_valueAsked_39 : decode cX6_valueAsked 39 = .ok (.goto 43, 3) := by decide +kernel
theorem dX6_valueAsked_42 : decode cX6_valueAsked 42 = .ok (.aload_n 0, 1) := by decide +kernel
theorem dX6_valueAsked_43 : decode cX6_valueAsked 43 = .ok (.ldc 199, 2) := by decide +kernel
theorem dX6_valueAsked_45 : decode cX6_valueAsked 45 = .ok (.invokevirtual 105, 3) := by decide +kernel
theorem dX6_valueAsked_48 : decode cX6_valueAsked 48 = .ok (.ifCond .eq 7, 3) := by decide +kernel
theorem dX6_valueAsked_51 : decode cX6_valueAsked 51 = .ok (.iconst 1, 1) := by decide +kernel
theorem dX6_valueAsked_52 : decode cX6_valueAsked 52 = .ok (.goto 30, 3) := by decide +kernel
theorem dX6_valueAsked_55 : decode cX6_valueAsked 55 = .ok (.aload_n 0, 1) := by decide +kernel
theorem dX6_valueAsked_56 : decode cX6_valueAsked 56 = .ok (.ldc 201, 2) := by decide +kernel
theorem dX6_valueAsked_58 : decode cX6_valueAsked 58 = .ok (.invokevirtual 105, 3) := by decide +kernel
theorem dX6_valueAsked_61 : decode cX6_valueAsked 61 = .ok (.ifCond .eq 7, 3) := by decide +kernel
theorem dX6_valueAsked_64 : decode cX6_valueAsked 64 = .ok (.iconst 2, 1) := by decide +kernel
theorem dX6_valueAsked_65 : decode cX6_valueAsked 65 = .ok (.goto 17, 3) := by decide +kernel
theorem dX6_valueAsked_68 : decode cX6_valueAsked 68 = .ok (.aload_n 0, 1) := by decide +kernel
theorem dX6_valueAsked_69 : decode cX6_valueAsked 69 = .ok (.ldc 203, 2) := by decide +kernel
theorem dX6_valueAsked_71 : decode cX6_valueAsked 71 = .ok (.invokevirtual 105, 3) := by decide +kernel
theorem dX6_valueAsked_74 : decode cX6_valueAsked 74 = .ok (.ifCond .eq 7, 3) := by decide +kernel
theorem dX6_valueAsked_77 : decode cX6_valueAsked 77 = .ok (.iconst 3, 1) := by decide +kernel
theorem dX6_valueAsked_78 : decode cX6_valueAsked 78 = .ok (.goto 4, 3) := by decide +kernel
theorem dX6_valueAsked_81 : decode cX6_valueAsked 81 = .ok (.iconst (-1), 1) := by decide +kernel
theorem dX6_valueAsked_82 : decode cX6_valueAsked 82 = .ok (.ireturn, 1) := by decide +kernel
theorem dX6_valueAsked_83 : decode cX6_valueAsked 83 = .ok (.aload_n 0, 1) := by decide +kernel
theorem dX6_valueAsked_84 : decode cX6_valueAsked 84 = .ok (.ldc 112, 2) := by decide +kernel
theorem dX6_valueAsked_86 : decode cX6_valueAsked 86 = .ok (.invokevirtual 105, 3) := by decide +kernel
theorem dX6_valueAsked_89 : decode cX6_valueAsked 89 = .ok (.ifCond .eq 8, 3) := by decide +kernel
theorem dX6_valueAsked_92 : decode cX6_valueAsked 92 = .ok (.bipush 6, 2) := by decide +kernel
theorem dX6_valueAsked_94 : decode cX6_valueAsked 94 = .ok (.goto 32, 3) := by decide +kernel
theorem dX6_valueAsked_97 : decode cX6_valueAsked 97 = .ok (.aload_n 0, 1) := by decide +kernel
theorem dX6_valueAsked_98 : decode cX6_valueAsked 98 = .ok (.ldc 205, 2) := by decide +kernel
theorem dX6_valueAsked_100 : decode cX6_valueAsked 100 = .ok (.invokevirtual 105, 3) := by decide +kernel
theorem dX6_valueAsked_103 : decode cX6_valueAsked 103 = .ok (.ifCond .eq 8, 3) := by decide +kernel
theorem dX6_valueAsked_106 : decode cX6_valueAsked 106 = .ok (.bipush 7, 2) := by decide +kernel
theorem dX6_valueAsked_108 : decode cX6_valueAsked 108 = .ok (.goto 18, 3) := by decide +kernel
theorem dX6_valueAsked_111 : decode cX6_valueAsked 111 = .ok (.aload_n 0, 1) := by decide +kernel
theorem dX6_valueAsked_112 : decode cX6_valueAsked 112 = .ok (.ldc 207, 2) := by decide +kernel
theorem dX6_valueAsked_114 : decode cX6_valueAsked 114 = .ok (.invokevirtual 105, 3) := by decide +kernel
theorem dX6_valueAsked_117 : decode cX6_valueAsked 117 = .ok (.ifCond .eq 8, 3) := by decide +kernel
theorem dX6_valueAsked_120 : decode cX6_valueAsked 120 = .ok (.bipush 8, 2) := by decide +kernel
theorem dX6_valueAsked_122 : decode cX6_valueAsked 122 = .ok (.goto 4, 3) := by decide +kernel
theorem dX6_valueAsked_125 : decode cX6_valueAsked 125 = .ok (.iconst (-1), 1) := by decide +kernel
theorem dX6_valueAsked_126 : decode cX6_valueAsked 126 = .ok (.ireturn, 1) := by decide +kernel
theorem dX6_houseTheRest_0 : decode cX6_houseTheRest 0 = .ok (.iconst 0, 1) := by decide +kernel
theorem dX6_houseTheRest_1 : decode cX6_houseTheRest 1 = .ok (.istore_n 1, 1) := by decide +kernel
theorem dX6_houseTheRest_2 : decode cX6_houseTheRest 2 = .ok (.iload_n 1, 1) := by decide +kernel
theorem dX6_houseTheRest_3 : decode cX6_houseTheRest 3 = .ok (.aload_n 0, 1) := by decide +kernel
theorem dX6_houseTheRest_4 : decode cX6_houseTheRest 4 = .ok (.getfield 12, 3) := by decide +kernel
theorem dX6_houseTheRest_7 : decode cX6_houseTheRest 7 = .ok (.getfield 127, 3) := by decide +kernel
theorem dX6_houseTheRest_10 : decode cX6_houseTheRest 10 = .ok (.if_icmp .ge 37, 3) := by decide +kernel
theorem dX6_houseTheRest_13 : decode cX6_houseTheRest 13 = .ok (.aload_n 0, 1) := by decide +kernel
theorem dX6_houseTheRest_14 : decode cX6_houseTheRest 14 = .ok (.getfield 12, 3) := by decide +kernel
theorem dX6_houseTheRest_17 : decode cX6_houseTheRest 17 = .ok (.getfield 146, 3) := by decide +kernel
theorem dX6_houseTheRest_20 : decode cX6_houseTheRest 20 = .ok (.iload_n 1, 1) := by decide +kernel
theorem dX6_houseTheRest_21 : decode cX6_houseTheRest 21 = .ok (.iaload, 1) := by decide +kernel
theorem dX6_houseTheRest_22 : decode cX6_houseTheRest 22 = .ok (.iconst (-1), 1) := by decide +kernel
theorem dX6_houseTheRest_23 : decode cX6_houseTheRest 23 = .ok (.if_icmp .ne 18, 3) := by decide +kernel
theorem dX6_houseTheRest_26 : decode cX6_houseTheRest 26 = .ok (.aload_n 0, 1) := by decide +kernel
theorem dX6_houseTheRest_27 : decode cX6_houseTheRest 27 = .ok (.getfield 12, 3) := by decide +kernel
theorem dX6_houseTheRest_30 : decode cX6_houseTheRest 30 = .ok (.iload_n 1, 1) := by decide +kernel
theorem dX6_houseTheRest_31 : decode cX6_houseTheRest 31 = .ok (.aload_n 0, 1) := by decide +kernel
theorem dX6_houseTheRest_32 : decode cX6_houseTheRest 32 = .ok (.getfield 12, 3) := by decide +kernel
theorem dX6_houseTheRest_35 : decode cX6_houseTheRest 35 = .ok (.invokevirtual 137, 3) := by decide +kernel
theorem dX6_houseTheRest_38 : decode cX6_houseTheRest 38 = .ok (.invokevirtual 150, 3) := by decide +kernel
theorem dX6_houseTheRest_41 : decode cX6_houseTheRest 41 = .ok (.iinc 1 1, 3) := by decide +kernel
theorem dX6_houseTheRest_44 : decode cX6_houseTheRest 44 = .ok (.goto (-42), 3) := by decide +kernel
theorem dX6_houseTheRest_47 : decode cX6_houseTheRest 47 = .ok (.return_, 1) := by decide +kernel
theorem dX7_init_0 : decode cX7_init 0 = .ok (.aload_n 0, 1) := by decide +kernel
theorem dX7_init_1 : decode cX7_init 1 = .ok (.invokespecial 3, 3) := by decide +kernel
theorem dX7_init_4 : decode cX7_init 4 = .ok (.aload_n 0, 1) := by decide +kernel
theorem dX7_init_5 : decode cX7_init 5 = .ok (.iconst 0, 1) := by decide +kernel
theorem dX7_init_6 : decode cX7_init 6 = .ok (.putfield 9, 3) := by decide +kernel
theorem dX7_init_9 : decode cX7_init 9 = .ok (.aload_n 0, 1) := by decide +kernel
theorem dX7_init_10 : decode cX7_init 10 = .ok (.iconst 0, 1) := by decide +kernel
theorem dX7_init_11 : decode cX7_init 11 = .ok (.putfield 15, 3) := by decide +kernel
theorem dX7_init_14 : decode cX7_init 14 = .ok (.aload_n 0, 1) := by decide +kernel
theorem dX7_init_15 : decode cX7_init 15 = .ok (.sipush 700, 3) := by decide +kernel
theorem dX7_init_18 : decode cX7_init 18 = .ok (.newarray .int, 2) := by decide +kernel
theorem dX7_init_20 : decode cX7_init 20 = .ok (.putfield 19, 3) := by decide +kernel
theorem dX7_init_23 : decode cX7_init 23 = .ok (.aload_n 0, 1) := by decide +kernel
theorem dX7_init_24 : decode cX7_init 24 = .ok (.bipush 40, 2) := by decide +kernel
theorem dX7_init_26 : decode cX7_init 26 = .ok (.newarray .int, 2) := by decide +kernel
theorem dX7_init_28 : decode cX7_init 28 = .ok (.putfield 23, 3) := by decide +kernel
theorem dX7_init_31 : decode cX7_init 31 = .ok (.return_, 1) := by decide +kernel
theorem dX7_clear_0 : decode cX7_clear 0 = .ok (.aload_n 0, 1) := by decide +kernel
theorem dX7_clear_1 : decode cX7_clear 1 = .ok (.iconst 0, 1) := by decide +kernel
theorem dX7_clear_2 : decode cX7_clear 2 = .ok (.putfield 9, 3) := by decide +kernel
theorem dX7_clear_5 : decode cX7_clear 5 = .ok (.aload_n 0, 1) := by decide +kernel
theorem dX7_clear_6 : decode cX7_clear 6 = .ok (.iconst 0, 1) := by decide +kernel
theorem dX7_clear_7 : decode cX7_clear 7 = .ok (.putfield 15, 3) := by decide +kernel
theorem dX7_clear_10 : decode cX7_clear 10 = .ok (.return_, 1) := by decide +kernel
theorem dX7_copyFrom_0 : decode cX7_copyFrom 0 = .ok (.aload_n 0, 1) := by decide +kernel
theorem dX7_copyFrom_1 : decode cX7_copyFrom 1 = .ok (.aload_n 1, 1) := by decide +kernel
theorem dX7_copyFrom_2 : decode cX7_copyFrom 2 = .ok (.getfield 9, 3) := by decide +kernel
theorem dX7_copyFrom_5 : decode cX7_copyFrom 5 = .ok (.putfield 9, 3) := by decide +kernel
theorem dX7_copyFrom_8 : decode cX7_copyFrom 8 = .ok (.aload_n 0, 1) := by decide +kernel
theorem dX7_copyFrom_9 : decode cX7_copyFrom 9 = .ok (.aload_n 1, 1) := by decide +kernel
theorem dX7_copyFrom_10 : decode cX7_copyFrom 10 = .ok (.getfield 15, 3) := by decide +kernel
theorem dX7_copyFrom_13 : decode cX7_copyFrom 13 = .ok (.putfield 15, 3) := by decide +kernel
theorem dX7_copyFrom_16 : decode cX7_copyFrom 16 = .ok (.aload_n 1, 1) := by decide +kernel
theorem dX7_copyFrom_17 : decode cX7_copyFrom 17 = .ok (.getfield 19, 3) := by decide +kernel
theorem dX7_copyFrom_20 : decode cX7_copyFrom 20 = .ok (.iconst 0, 1) := by decide +kernel
theorem dX7_copyFrom_21 : decode cX7_copyFrom 21 = .ok (.aload_n 0, 1) := by decide +kernel
theorem dX7_copyFrom_22 : decode cX7_copyFrom 22 = .ok (.getfield 19, 3) := by decide +kernel
theorem dX7_copyFrom_25 : decode cX7_copyFrom 25 = .ok (.iconst 0, 1) := by decide +kernel
theorem dX7_copyFrom_26 : decode cX7_copyFrom 26 = .ok (.aload_n 1, 1) := by decide +kernel
theorem dX7_copyFrom_27 : decode cX7_copyFrom 27 = .ok (.getfield 15, 3) := by decide +kernel
theorem dX7_copyFrom_30 : decode cX7_copyFrom 30 = .ok (.invokestatic 26, 3) := by decide +kernel
theorem dX7_copyFrom_33 : decode cX7_copyFrom 33 = .ok (.return_, 1) := by decide +kernel
theorem dX7_add_0 : decode cX7_add 0 = .ok (.aload_n 0, 1) := by decide +kernel
theorem dX7_add_1 : decode cX7_add 1 = .ok (.getfield 15, 3) := by decide +kernel
theorem dX7_add_4 : decode cX7_add 4 = .ok (.aload_n 0, 1) := by decide +kernel
theorem dX7_add_5 : decode cX7_add 5 = .ok (.getfield 19, 3) := by decide +kernel
theorem dX7_add_8 : decode cX7_add 8 = .ok (.arraylength, 1) := by decide +kernel
theorem dX7_add_9 : decode cX7_add 9 = .ok (.if_icmp .ge 23, 3) := by decide +kernel
theorem dX7_add_12 : decode cX7_add 12 = .ok (.aload_n 0, 1) := by decide +kernel
theorem dX7_add_13 : decode cX7_add 13 = .ok (.getfield 19, 3) := by decide +kernel
theorem dX7_add_16 : decode cX7_add 16 = .ok (.aload_n 0, 1) := by decide +kernel
theorem dX7_add_17 : decode cX7_add 17 = .ok (.getfield 15, 3) := by decide +kernel
theorem dX7_add_20 : decode cX7_add 20 = .ok (.iload_n 1, 1) := by decide +kernel
theorem dX7_add_21 : decode cX7_add 21 = .ok (.iastore, 1) := by decide +kernel
theorem dX7_add_22 : decode cX7_add 22 = .ok (.aload_n 0, 1) := by decide +kernel
theorem dX7_add_23 : decode cX7_add 23 = .ok (.dup, 1) := by decide +kernel
theorem dX7_add_24 : decode cX7_add 24 = .ok (.getfield 15, 3) := by decide +kernel
theorem dX7_add_27 : decode cX7_add 27 = .ok (.iconst 1, 1) := by decide +kernel
theorem dX7_add_28 : decode cX7_add 28 = .ok (.iadd, 1) := by decide +kernel
theorem dX7_add_29 : decode cX7_add 29 = .ok (.putfield 15, 3) := by decide +kernel
theorem dX7_add_32 : decode cX7_add 32 = .ok (.return_, 1) := by decide +kernel
theorem dX7_of_0 : decode cX7_of 0 = .ok (.iconst 0, 1) := by decide +kernel
theorem dX7_of_1 : decode cX7_of 1 = .ok (.istore_n 2, 1) := by decide +kernel
theorem dX7_of_2 : decode cX7_of 2 = .ok (.iconst 0, 1) := by decide +kernel
theorem dX7_of_3 : decode cX7_of 3 = .ok (.istore_n 3, 1) := by decide +kernel
theorem dX7_of_4 : decode cX7_of 4 = .ok (.iload_n 3, 1) := by decide +kernel
theorem dX7_of_5 : decode cX7_of 5 = .ok (.aload_n 0, 1) := by decide +kernel
theorem dX7_of_6 : decode cX7_of 6 = .ok (.getfield 15, 3) := by decide +kernel
theorem dX7_of_9 : decode cX7_of 9 = .ok (.if_icmp .ge 375, 3) := by decide +kernel
theorem dX7_of_12 : decode cX7_of 12 = .ok (.aload_n 0, 1) := by decide +kernel
theorem dX7_of_13 : decode cX7_of 13 = .ok (.getfield 19, 3) := by decide +kernel
theorem dX7_of_16 : decode cX7_of 16 = .ok (.iload_n 3, 1) := by decide +kernel
theorem dX7_of_17 : decode cX7_of 17 = .ok (.iaload, 1) := by decide +kernel
theorem dX7_of_18 : decode cX7_of 18 = .ok (.istore 4, 2) := by decide +kernel
theorem dX7_of_20 : decode cX7_of 20 = .ok (.iload 4, 2) := by decide +kernel
theorem dX7_of_22 : decode cX7_of 22 = .ok (.sipush 20000, 3) := by decide +kernel
theorem dX7_of_25 : decode cX7_of 25 = .ok (.if_icmp .ge 42, 3) := by decide +kernel
theorem dX7_of_28 : decode cX7_of 28 = .ok (.iload_n 2, 1) := by decide +kernel
theorem dX7_of_29 : decode cX7_of 29 = .ok (.bipush 40, 2) := by decide +kernel
theorem dX7_of_31 : decode cX7_of 31 = .ok (.if_icmp .ge 36, 3) := by decide +kernel
theorem dX7_of_34 : decode cX7_of 34 = .ok (.aload_n 0, 1) := by decide +kernel
theorem dX7_of_35 : decode cX7_of 35 = .ok (.getfield 23, 3) := by decide +kernel
theorem dX7_of_38 : decode cX7_of 38 = .ok (.iload_n 2, 1) := by decide +kernel
theorem dX7_of_39 : decode cX7_of 39 = .ok (.iload 4, 2) := by decide +kernel
theorem dX7_of_41 : decode cX7_of 41 = .ok (.sipush 10000, 3) := by decide +kernel
theorem dX7_of_44 : decode cX7_of 44 = .ok (.if_icmp .ge 8, 3) := by decide +kernel
theorem dX7_of_47 : decode cX7_of 47 = .ok (.iload 4, 2) := by decide +kernel
theorem dX7_of_49 : decode cX7_of 49 = .ok (.goto 11, 3) := by decide +kernel
theorem dX7_of_52 : decode cX7_of 52 = .ok (.aload_n 1, 1) := by decide +kernel
theorem dX7_of_53 : decode cX7_of 53 = .ok (.iload 4, 2) := by decide +kernel
theorem dX7_of_55 : decode cX7_of 55 = .ok (.sipush 10000, 3) := by decide +kernel
theorem dX7_of_58 : decode cX7_of 58 = .ok (.isub, 1) := by decide +kernel
theorem dX7_of_59 : decode cX7_of 59 = .ok (.iaload, 1) := by decide +kernel
theorem dX7_of_60 : decode cX7_of 60 = .ok (.iastore, 1) := by decide +kernel
theorem dX7_of_61 : decode cX7_of 61 = .ok (.iinc 2 1, 3) := by decide +kernel
theorem dX7_of_64 : decode cX7_of 64 = .ok (.goto 314, 3) := by decide +kernel
theorem dX7_of_67 : decode cX7_of 67 = .ok (.iload 4, 2) := by decide +kernel
theorem dX7_of_69 : decode cX7_of 69 = .ok (.sipush 20033, 3) := by decide +kernel
theorem dX7_of_72 : decode cX7_of 72 = .ok (.if_icmp .ne 34, 3) := by decide +kernel
theorem dX7_of_75 : decode cX7_of 75 = .ok (.iload_n 2, 1) := by decide +kernel
theorem dX7_of_76 : decode cX7_of 76 = .ok (.ifCond .le 30, 3) := by decide +kernel
theorem dX7_of_79 : decode cX7_of 79 = .ok (.aload_n 0, 1) := by decide +kernel
theorem dX7_of_80 : decode cX7_of 80 = .ok (.getfield 23, 3) := by decide +kernel
theorem dX7_of_83 : decode cX7_of 83 = .ok (.iload_n 2, 1) := by decide +kernel
theorem dX7_of_84 : decode cX7_of 84 = .ok (.iconst 1, 1) := by decide +kernel
theorem dX7_of_85 : decode cX7_of 85 = .ok (.isub, 1) := by decide +kernel
theorem dX7_of_86 : decode cX7_of 86 = .ok (.aload_n 0, 1) := by decide +kernel
theorem dX7_of_87 : decode cX7_of 87 = .ok (.getfield 23, 3) := by decide +kernel
theorem dX7_of_90 : decode cX7_of 90 = .ok (.iload_n 2, 1) := by decide +kernel
theorem dX7_of_91 : decode cX7_of 91 = .ok (.iconst 1, 1) := by decide +kernel
theorem dX7_of_92 : decode cX7_of 92 = .ok (.isub, 1) := by decide +kernel
theorem dX7_of_93 : decode cX7_of 93 = .ok (.iaload, 1) := by decide +kernel
theorem dX7_of_94 : decode cX7_of 94 = .ok (.ifCond .ne 7, 3) := by decide +kernel
theorem dX7_of_97 : decode cX7_of 97 = .ok (.iconst 1, 1) := by decide +kernel
theorem dX7_of_98 : decode cX7_of 98 = .ok (.goto 4, 3) := by decide +kernel
theorem dX7_of_101 : decode cX7_of 101 = .ok (.iconst 0, 1) := by decide +kernel
theorem dX7_of_102 : decode cX7_of 102 = .ok (.iastore, 1) := by decide +kernel
theorem dX7_of_103 : decode cX7_of 103 = .ok (.goto 275, 3) := by decide +kernel
theorem dX7_of_106 : decode cX7_of 106 = .ok (.iload_n 2, 1) := by decide +kernel
theorem dX7_of_107 : decode cX7_of 107 = .ok (.iconst 1, 1) := by decide +kernel
theorem dX7_of_108 : decode cX7_of 108 = .ok (.if_icmp .le 270, 3) := by decide +kernel
theorem dX7_of_111 : decode cX7_of 111 = .ok (.iinc 2 (-1), 3) := by decide +kernel
theorem dX7_of_114 : decode cX7_of 114 = .ok (.aload_n 0, 1) := by decide +kernel
theorem dX7_of_115 : decode cX7_of 115 = .ok (.getfield 23, 3) := by decide +kernel
theorem dX7_of_118 : decode cX7_of 118 = .ok (.iload_n 2, 1) := by decide +kernel
theorem dX7_of_119 : decode cX7_of 119 = .ok (.iconst 1, 1) := by decide +kernel
theorem dX7_of_120 : decode cX7_of 120 = .ok (.isub, 1) := by decide +kernel
theorem dX7_of_121 : decode cX7_of 121 = .ok (.iaload, 1) := by decide +kernel
theorem dX7_of_122 : decode cX7_of 122 = .ok (.istore 5, 2) := by decide +kernel
theorem dX7_of_124 : decode cX7_of 124 = .ok (.aload_n 0, 1) := by decide +kernel
theorem dX7_of_125 : decode cX7_of 125 = .ok (.getfield 23, 3) := by decide +kernel
theorem dX7_of_128 : decode cX7_of 128 = .ok (.iload_n 2, 1) := by decide +kernel
theorem dX7_of_129 : decode cX7_of 129 = .ok (.iaload, 1) := by decide +kernel
theorem dX7_of_130 : decode cX7_of 130 = .ok (.istore 6, 2) := by decide +kernel
theorem dX7_of_132 : decode cX7_of 132 = .ok (.iload 4, 2) := by decide +kernel
theorem dX7_of_134 : decode cX7_of 134 = .ok (.sipush 20000, 3) := by decide +kernel
theorem dX7_of_137 : decode cX7_of 137 = .ok (.isub, 1) := by decide +kernel
theorem dX7_of_138 : decode cX7_of 138 = .ok (.tableswitch 213 38 61 #[193, 213, 213, 213, 130, 110, 213, 120, 213, 140, 213, 213, 213, 213, 213, 213, 213, 213, 213, 213, 213, 213, 159, 176], 110) := by decide +kernel
theorem dX7_of_248 : decode cX7_of 248 = .ok (.iload 5, 2) := by decide +kernel
theorem dX7_of_250 : decode cX7_of 250 = .ok (.iload 6, 2) := by decide +kernel
theorem dX7_of_252 : decode cX7_of 252 = .ok (.iadd, 1) := by decide +kernel
theorem dX7_of_253 : decode cX7_of 253 = .ok (.istore 7, 2) := by decide +kernel
theorem dX7_of_255 : decode cX7_of 255 = .ok (.goto 113, 3) := by decide +kernel
theorem dX7_of_258 : decode cX7_of 258 = .ok (.iload 5, 2) := by decide +kernel
theorem dX7_of_260 : decode cX7_of 260 = .ok (.iload 6, 2) := by decide +kernel
theorem dX7_of_262 : decode cX7_of 262 = .ok (.isub, 1) := by decide +kernel
theorem dX7_of_263 : decode cX7_of 263 = .ok (.istore 7, 2) := by decide +kernel
theorem dX7_of_265 : decode cX7_of 265 = .ok (.goto 103, 3) := by decide +kernel
theorem dX7_of_268 : decode cX7_of 268 = .ok (.iload 5, 2) := by decide +kernel
theorem dX7_of_270 : decode cX7_of 270 = .ok (.iload 6, 2) := by decide +kernel
theorem dX7_of_272 : decode cX7_of 272 = .ok (.imul, 1) := by decide +kernel
theorem dX7_of_273 : decode cX7_of 273 = .ok (.istore 7, 2) := by decide +kernel
theorem dX7_of_275 : decode cX7_of 275 = .ok (.goto 93, 3) := by decide +kernel
theorem dX7_of_278 : decode cX7_of 278 = .ok (.iload 6, 2) := by decide +kernel
theorem dX7_of_280 : decode cX7_of 280 = .ok (.ifCond .ne 7, 3) := by decide +kernel
theorem dX7_of_283 : decode cX7_of 283 = .ok (.iconst 0, 1) := by decide +kernel
theorem dX7_of_284 : decode cX7_of 284 = .ok (.goto 8, 3) := by decide +kernel
theorem dX7_of_287 : decode cX7_of 287 = .ok (.iload 5, 2) := by decide +kernel
theorem dX7_of_289 : decode cX7_of 289 = .ok (.iload 6, 2) := by decide +kernel
theorem dX7_of_291 : decode cX7_of 291 = .ok (.idiv, 1) := by decide +kernel
theorem dX7_of_292 : decode cX7_of 292 = .ok (.istore 7, 2) := by decide +kernel
theorem dX7_of_294 : decode cX7_of 294 = .ok (.goto 74, 3) := by decide +kernel
theorem dX7_of_297 : decode cX7_of 297 = .ok (.iload 5, 2) := by decide +kernel
theorem dX7_of_299 : decode cX7_of 299 = .ok (.iload 6, 2) := by decide +kernel
theorem dX7_of_301 : decode cX7_of 301 = .ok (.if_icmp .ge 7, 3) := by decide +kernel
theorem dX7_of_304 : decode cX7_of 304 = .ok (.iconst 1, 1) := by decide +kernel
theorem dX7_of_305 : decode cX7_of 305 = .ok (.goto 4, 3) := by decide +kernel
theorem dX7_of_308 : decode cX7_of 308 = .ok (.iconst 0, 1) := by decide +kernel
theorem dX7_of_309 : decode cX7_of 309 = .ok (.istore 7, 2) := by decide +kernel
theorem dX7_of_311 : decode cX7_of 311 = .ok (.goto 57, 3) := by decide +kernel
theorem dX7_of_314 : decode cX7_of 314 = .ok (.iload 5, 2) := by decide +kernel
theorem dX7_of_316 : decode cX7_of 316 = .ok (.iload 6, 2) := by decide +kernel
theorem dX7_of_318 : decode cX7_of 318 = .ok (.if_icmp .ne 7, 3) := by decide +kernel
theorem dX7_of_321 : decode cX7_of 321 = .ok (.iconst 1, 1) := by decide +kernel
theorem dX7_of_322 : decode cX7_of 322 = .ok (.goto 4, 3) := by decide +kernel
theorem dX7_of_325 : decode cX7_of 325 = .ok (.iconst 0, 1) := by decide +kernel
theorem dX7_of_326 : decode cX7_of 326 = .ok (.istore 7, 2) := by decide +kernel
theorem dX7_of_328 : decode cX7_of 328 = .ok (.goto 40, 3) := by decide +kernel
theorem dX7_of_331 : decode cX7_of 331 = .ok (.iload 5, 2) := by decide +kernel
theorem dX7_of_333 : decode cX7_of 333 = .ok (.ifCond .eq 12, 3) := by decide +kernel
theorem dX7_of_336 : decode cX7_of 336 = .ok (.iload 6, 2) := by decide +kernel
theorem dX7_of_338 : decode cX7_of 338 = .ok (.ifCond .eq 7, 3) := by decide +kernel
theorem dX7_of_341 : decode cX7_of 341 = .ok (.iconst 1, 1) := by decide +kernel
theorem dX7_of_342 : decode cX7_of 342 = .ok (.goto 4, 3) := by decide +kernel
theorem dX7_of_345 : decode cX7_of 345 = .ok (.iconst 0, 1) := by decide +kernel
theorem dX7_of_346 : decode cX7_of 346 = .ok (.istore 7, 2) := by decide +kernel
theorem dX7_of_348 : decode cX7_of 348 = .ok (.goto 20, 3) := by decide +kernel
theorem dX7_of_351 : decode cX7_of 351 = .ok (.iload 5, 2) := by decide +kernel
theorem dX7_of_353 : decode cX7_of 353 = .ok (.ifCond .ne 8, 3) := by decide +kernel
theorem dX7_of_356 : decode cX7_of 356 = .ok (.iload 6, 2) := by decide +kernel
theorem dX7_of_358 : decode cX7_of 358 = .ok (.ifCond .eq 7, 3) := by decide +kernel
theorem dX7_of_361 : decode cX7_of 361 = .ok (.iconst 1, 1) := by decide +kernel
theorem dX7_of_362 : decode cX7_of 362 = .ok (.goto 4, 3) := by decide +kernel
theorem dX7_of_365 : decode cX7_of 365 = .ok (.iconst 0, 1) := by decide +kernel
theorem dX7_of_366 : decode cX7_of 366 = .ok (.istore 7, 2) := by decide +kernel
theorem dX7_of_368 : decode cX7_of 368 = .ok (.aload_n 0, 1) := by decide +kernel
theorem dX7_of_369 : decode cX7_of 369 = .ok (.getfield 23, 3) := by decide +kernel
theorem dX7_of_372 : decode cX7_of 372 = .ok (.iload_n 2, 1) := by decide +kernel
theorem dX7_of_373 : decode cX7_of 373 = .ok (.iconst 1, 1) := by decide +kernel
theorem dX7_of_374 : decode cX7_of 374 = .ok (.isub, 1) := by decide +kernel
theorem dX7_of_375 : decode cX7_of 375 = .ok (.iload 7, 2) := by decide +kernel
theorem dX7_of_377 : decode cX7_of 377 = .ok (.iastore, 1) := by decide +kernel
theorem dX7_of_378 : decode cX7_of 378 = .ok (.iinc 3 1, 3) := by decide +kernel
theorem dX7_of_381 : decode cX7_of 381 = .ok (.goto (-377), 3) := by decide +kernel
theorem dX7_of_384 : decode cX7_of 384 = .ok (.iload_n 2, 1) := by decide +kernel
theorem dX7_of_385 : decode cX7_of 385 = .ok (.ifCond .le 12, 3) := by decide +kernel
theorem dX7_of_388 : decode cX7_of 388 = .ok (.aload_n 0, 1) := by decide +kernel
theorem dX7_of_389 : decode cX7_of 389 = .ok (.getfield 23, 3) := by decide +kernel
theorem dX7_of_392 : decode cX7_of 392 = .ok (.iconst 0, 1) := by decide +kernel
theorem dX7_of_393 : decode cX7_of 393 = .ok (.iaload, 1) := by decide +kernel
theorem dX7_of_394 : decode cX7_of 394 = .ok (.goto 4, 3) := by decide +kernel
theorem dX7_of_397 : decode cX7_of 397 = .ok (.iconst 0, 1) := by decide +kernel
theorem dX7_of_398 : decode cX7_of 398 = .ok (.ireturn, 1) := by decide +kernel
theorem dX8_init_0 : decode cX8_init 0 = .ok (.aload_n 0, 1) := by decide +kernel
theorem dX8_init_1 : decode cX8_init 1 = .ok (.invokespecial 3, 3) := by decide +kernel
theorem dX8_init_4 : decode cX8_init 4 = .ok (.aload_n 0, 1) := by decide +kernel
theorem dX8_init_5 : decode cX8_init 5 = .ok (.iconst 0, 1) := by decide +kernel
theorem dX8_init_6 : decode cX8_init 6 = .ok (.putfield 9, 3) := by decide +kernel
theorem dX8_init_9 : decode cX8_init 9 = .ok (.aload_n 0, 1) := by decide +kernel
theorem dX8_init_10 : decode cX8_init 10 = .ok (.bipush 8, 2) := by decide +kernel
theorem dX8_init_12 : decode cX8_init 12 = .ok (.newarray .int, 2) := by decide +kernel
theorem dX8_init_14 : decode cX8_init 14 = .ok (.putfield 15, 3) := by decide +kernel
theorem dX8_init_17 : decode cX8_init 17 = .ok (.aload_n 0, 1) := by decide +kernel
theorem dX8_init_18 : decode cX8_init 18 = .ok (.bipush 8, 2) := by decide +kernel
theorem dX8_init_20 : decode cX8_init 20 = .ok (.newarray .int, 2) := by decide +kernel
theorem dX8_init_22 : decode cX8_init 22 = .ok (.putfield 19, 3) := by decide +kernel
theorem dX8_init_25 : decode cX8_init 25 = .ok (.aload_n 0, 1) := by decide +kernel
theorem dX8_init_26 : decode cX8_init 26 = .ok (.bipush 8, 2) := by decide +kernel
theorem dX8_init_28 : decode cX8_init 28 = .ok (.newarray .int, 2) := by decide +kernel
theorem dX8_init_30 : decode cX8_init 30 = .ok (.putfield 22, 3) := by decide +kernel
theorem dX8_init_33 : decode cX8_init 33 = .ok (.return_, 1) := by decide +kernel
theorem dX8_copyFrom_0 : decode cX8_copyFrom 0 = .ok (.aload_n 0, 1) := by decide +kernel
theorem dX8_copyFrom_1 : decode cX8_copyFrom 1 = .ok (.aload_n 1, 1) := by decide +kernel
theorem dX8_copyFrom_2 : decode cX8_copyFrom 2 = .ok (.getfield 9, 3) := by decide +kernel
theorem dX8_copyFrom_5 : decode cX8_copyFrom 5 = .ok (.putfield 9, 3) := by decide +kernel
theorem dX8_copyFrom_8 : decode cX8_copyFrom 8 = .ok (.aload_n 1, 1) := by decide +kernel
theorem dX8_copyFrom_9 : decode cX8_copyFrom 9 = .ok (.getfield 15, 3) := by decide +kernel
theorem dX8_copyFrom_12 : decode cX8_copyFrom 12 = .ok (.iconst 0, 1) := by decide +kernel
theorem dX8_copyFrom_13 : decode cX8_copyFrom 13 = .ok (.aload_n 0, 1) := by decide +kernel
theorem dX8_copyFrom_14 : decode cX8_copyFrom 14 = .ok (.getfield 15, 3) := by decide +kernel
theorem dX8_copyFrom_17 : decode cX8_copyFrom 17 = .ok (.iconst 0, 1) := by decide +kernel
theorem dX8_copyFrom_18 : decode cX8_copyFrom 18 = .ok (.bipush 8, 2) := by decide +kernel
theorem dX8_copyFrom_20 : decode cX8_copyFrom 20 = .ok (.invokestatic 25, 3) := by decide +kernel
theorem dX8_copyFrom_23 : decode cX8_copyFrom 23 = .ok (.aload_n 1, 1) := by decide +kernel
theorem dX8_copyFrom_24 : decode cX8_copyFrom 24 = .ok (.getfield 19, 3) := by decide +kernel
theorem dX8_copyFrom_27 : decode cX8_copyFrom 27 = .ok (.iconst 0, 1) := by decide +kernel
theorem dX8_copyFrom_28 : decode cX8_copyFrom 28 = .ok (.aload_n 0, 1) := by decide +kernel
theorem dX8_copyFrom_29 : decode cX8_copyFrom 29 = .ok (.getfield 19, 3) := by decide +kernel
theorem dX8_copyFrom_32 : decode cX8_copyFrom 32 = .ok (.iconst 0, 1) := by decide +kernel
theorem dX8_copyFrom_33 : decode cX8_copyFrom 33 = .ok (.bipush 8, 2) := by decide +kernel
theorem dX8_copyFrom_35 : decode cX8_copyFrom 35 = .ok (.invokestatic 25, 3) := by decide +kernel
theorem dX8_copyFrom_38 : decode cX8_copyFrom 38 = .ok (.aload_n 1, 1) := by decide +kernel
theorem dX8_copyFrom_39 : decode cX8_copyFrom 39 = .ok (.getfield 22, 3) := by decide +kernel
theorem dX8_copyFrom_42 : decode cX8_copyFrom 42 = .ok (.iconst 0, 1) := by decide +kernel
theorem dX8_copyFrom_43 : decode cX8_copyFrom 43 = .ok (.aload_n 0, 1) := by decide +kernel
theorem dX8_copyFrom_44 : decode cX8_copyFrom 44 = .ok (.getfield 22, 3) := by decide +kernel
theorem dX8_copyFrom_47 : decode cX8_copyFrom 47 = .ok (.iconst 0, 1) := by decide +kernel
theorem dX8_copyFrom_48 : decode cX8_copyFrom 48 = .ok (.bipush 8, 2) := by decide +kernel
theorem dX8_copyFrom_50 : decode cX8_copyFrom 50 = .ok (.invokestatic 25, 3) := by decide +kernel
theorem dX8_copyFrom_53 : decode cX8_copyFrom 53 = .ok (.return_, 1) := by decide +kernel
theorem dX8_add_0 : decode cX8_add 0 = .ok (.aload_n 0, 1) := by decide +kernel
theorem dX8_add_1 : decode cX8_add 1 = .ok (.getfield 9, 3) := by decide +kernel
theorem dX8_add_4 : decode cX8_add 4 = .ok (.bipush 8, 2) := by decide +kernel
theorem dX8_add_6 : decode cX8_add 6 = .ok (.if_icmp .ge 43, 3) := by decide +kernel
theorem dX8_add_9 : decode cX8_add 9 = .ok (.aload_n 0, 1) := by decide +kernel
theorem dX8_add_10 : decode cX8_add 10 = .ok (.getfield 15, 3) := by decide +kernel
theorem dX8_add_13 : decode cX8_add 13 = .ok (.aload_n 0, 1) := by decide +kernel
theorem dX8_add_14 : decode cX8_add 14 = .ok (.getfield 9, 3) := by decide +kernel
theorem dX8_add_17 : decode cX8_add 17 = .ok (.iload_n 1, 1) := by decide +kernel
theorem dX8_add_18 : decode cX8_add 18 = .ok (.iastore, 1) := by decide +kernel
theorem dX8_add_19 : decode cX8_add 19 = .ok (.aload_n 0, 1) := by decide +kernel
theorem dX8_add_20 : decode cX8_add 20 = .ok (.getfield 19, 3) := by decide +kernel
theorem dX8_add_23 : decode cX8_add 23 = .ok (.aload_n 0, 1) := by decide +kernel
theorem dX8_add_24 : decode cX8_add 24 = .ok (.getfield 9, 3) := by decide +kernel
theorem dX8_add_27 : decode cX8_add 27 = .ok (.iload_n 2, 1) := by decide +kernel
theorem dX8_add_28 : decode cX8_add 28 = .ok (.iastore, 1) := by decide +kernel
theorem dX8_add_29 : decode cX8_add 29 = .ok (.aload_n 0, 1) := by decide +kernel
theorem dX8_add_30 : decode cX8_add 30 = .ok (.getfield 22, 3) := by decide +kernel
theorem dX8_add_33 : decode cX8_add 33 = .ok (.aload_n 0, 1) := by decide +kernel
theorem dX8_add_34 : decode cX8_add 34 = .ok (.getfield 9, 3) := by decide +kernel
theorem dX8_add_37 : decode cX8_add 37 = .ok (.iload_n 3, 1) := by decide +kernel
theorem dX8_add_38 : decode cX8_add 38 = .ok (.iastore, 1) := by decide +kernel
theorem dX8_add_39 : decode cX8_add 39 = .ok (.aload_n 0, 1) := by decide +kernel
theorem dX8_add_40 : decode cX8_add 40 = .ok (.dup, 1) := by decide +kernel
theorem dX8_add_41 : decode cX8_add 41 = .ok (.getfield 9, 3) := by decide +kernel
theorem dX8_add_44 : decode cX8_add 44 = .ok (.iconst 1, 1) := by decide +kernel
theorem dX8_add_45 : decode cX8_add 45 = .ok (.iadd, 1) := by decide +kernel
theorem dX8_add_46 : decode cX8_add 46 = .ok (.putfield 9, 3) := by decide +kernel
theorem dX8_add_49 : decode cX8_add 49 = .ok (.return_, 1) := by decide +kernel
theorem dX8_last_0 : decode cX8_last 0 = .ok (.iconst (-1), 1) := by decide +kernel
theorem dX8_last_1 : decode cX8_last 1 = .ok (.istore_n 1, 1) := by decide +kernel
theorem dX8_last_2 : decode cX8_last 2 = .ok (.iconst 0, 1) := by decide +kernel
theorem dX8_last_3 : decode cX8_last 3 = .ok (.istore_n 2, 1) := by decide +kernel
theorem dX8_last_4 : decode cX8_last 4 = .ok (.iload_n 2, 1) := by decide +kernel
theorem dX8_last_5 : decode cX8_last 5 = .ok (.aload_n 0, 1) := by decide +kernel
theorem dX8_last_6 : decode cX8_last 6 = .ok (.getfield 9, 3) := by decide +kernel
theorem dX8_last_9 : decode cX8_last 9 = .ok (.if_icmp .ge 20, 3) := by decide +kernel
theorem dX8_last_12 : decode cX8_last 12 = .ok (.iload_n 1, 1) := by decide +kernel
theorem dX8_last_13 : decode cX8_last 13 = .ok (.aload_n 0, 1) := by decide +kernel
theorem dX8_last_14 : decode cX8_last 14 = .ok (.getfield 19, 3) := by decide +kernel
theorem dX8_last_17 : decode cX8_last 17 = .ok (.iload_n 2, 1) := by decide +kernel
theorem dX8_last_18 : decode cX8_last 18 = .ok (.iaload, 1) := by decide +kernel
theorem dX8_last_19 : decode cX8_last 19 = .ok (.invokestatic 31, 3) := by decide +kernel
theorem dX8_last_22 : decode cX8_last 22 = .ok (.istore_n 1, 1) := by decide +kernel
theorem dX8_last_23 : decode cX8_last 23 = .ok (.iinc 2 1, 3) := by decide +kernel
theorem dX8_last_26 : decode cX8_last 26 = .ok (.goto (-22), 3) := by decide +kernel
theorem dX8_last_29 : decode cX8_last 29 = .ok (.iload_n 1, 1) := by decide +kernel
theorem dX8_last_30 : decode cX8_last 30 = .ok (.ireturn, 1) := by decide +kernel
theorem dX8_fits_0 : decode cX8_fits 0 = .ok (.iconst 0, 1) := by decide +kernel
theorem dX8_fits_1 : decode cX8_fits 1 = .ok (.istore_n 3, 1) := by decide +kernel
theorem dX8_fits_2 : decode cX8_fits 2 = .ok (.iload_n 3, 1) := by decide +kernel
theorem dX8_fits_3 : decode cX8_fits 3 = .ok (.aload_n 0, 1) := by decide +kernel
theorem dX8_fits_4 : decode cX8_fits 4 = .ok (.getfield 9, 3) := by decide +kernel
theorem dX8_fits_7 : decode cX8_fits 7 = .ok (.if_icmp .ge 46, 3) := by decide +kernel
theorem dX8_fits_10 : decode cX8_fits 10 = .ok (.aload_n 0, 1) := by decide +kernel
theorem dX8_fits_11 : decode cX8_fits 11 = .ok (.getfield 19, 3) := by decide +kernel
theorem dX8_fits_14 : decode cX8_fits 14 = .ok (.iload_n 3, 1) := by decide +kernel
theorem dX8_fits_15 : decode cX8_fits 15 = .ok (.iaload, 1) := by decide +kernel
theorem dX8_fits_16 : decode cX8_fits 16 = .ok (.iload_n 2, 1) := by decide +kernel
theorem dX8_fits_17 : decode cX8_fits 17 = .ok (.if_icmp .ne 30, 3) := by decide +kernel
theorem dX8_fits_20 : decode cX8_fits 20 = .ok (.aload_n 1, 1) := by decide +kernel
theorem dX8_fits_21 : decode cX8_fits 21 = .ok (.getfield 37, 3) := by decide +kernel
theorem dX8_fits_24 : decode cX8_fits 24 = .ok (.aload_n 1, 1) := by decide +kernel
theorem dX8_fits_25 : decode cX8_fits 25 = .ok (.getfield 42, 3) := by decide +kernel
theorem dX8_fits_28 : decode cX8_fits 28 = .ok (.aload_n 0, 1) := by decide +kernel
theorem dX8_fits_29 : decode cX8_fits 29 = .ok (.getfield 15, 3) := by decide +kernel
theorem dX8_fits_32 : decode cX8_fits 32 = .ok (.iload_n 3, 1) := by decide +kernel
theorem dX8_fits_33 : decode cX8_fits 33 = .ok (.iaload, 1) := by decide +kernel
theorem dX8_fits_34 : decode cX8_fits 34 = .ok (.iaload, 1) := by decide +kernel
theorem dX8_fits_35 : decode cX8_fits 35 = .ok (.iaload, 1) := by decide +kernel
theorem dX8_fits_36 : decode cX8_fits 36 = .ok (.aload_n 0, 1) := by decide +kernel
theorem dX8_fits_37 : decode cX8_fits 37 = .ok (.getfield 22, 3) := by decide +kernel
theorem dX8_fits_40 : decode cX8_fits 40 = .ok (.iload_n 3, 1) := by decide +kernel
theorem dX8_fits_41 : decode cX8_fits 41 = .ok (.iaload, 1) := by decide +kernel
theorem dX8_fits_42 : decode cX8_fits 42 = .ok (.if_icmp .eq 5, 3) := by decide +kernel
theorem dX8_fits_45 : decode cX8_fits 45 = .ok (.iconst 0, 1) := by decide +kernel
theorem dX8_fits_46 : decode cX8_fits 46 = .ok (.ireturn, 1) := by decide +kernel
theorem dX8_fits_47 : decode cX8_fits 47 = .ok (.iinc 3 1, 3) := by decide +kernel
theorem dX8_fits_50 : decode cX8_fits 50 = .ok (.goto (-48), 3) := by decide +kernel
theorem dX8_fits_53 : decode cX8_fits 53 = .ok (.iconst 1, 1) := by decide +kernel
theorem dX8_fits_54 : decode cX8_fits 54 = .ok (.ireturn, 1) := by decide +kernel
theorem dX9_init_0 : decode cX9_init 0 = .ok (.aload_n 0, 1) := by decide +kernel
theorem dX9_init_1 : decode cX9_init 1 = .ok (.invokespecial 3, 3) := by decide +kernel
theorem dX9_init_4 : decode cX9_init 4 = .ok (.aload_n 0, 1) := by decide +kernel
theorem dX9_init_5 : decode cX9_init 5 = .ok (.new 9, 3) := by decide +kernel
theorem dX9_init_8 : decode cX9_init 8 = .ok (.dup, 1) := by decide +kernel
theorem dX9_init_9 : decode cX9_init 9 = .ok (.invokespecial 11, 3) := by decide +kernel
theorem dX9_init_12 : decode cX9_init 12 = .ok (.putfield 12, 3) := by decide +kernel
theorem dX9_init_15 : decode cX9_init 15 = .ok (.aload_n 0, 1) := by decide +kernel
theorem dX9_init_16 : decode cX9_init 16 = .ok (.new 18, 3) := by decide +kernel
theorem dX9_init_19 : decode cX9_init 19 = .ok (.dup, 1) := by decide +kernel
theorem dX9_init_20 : decode cX9_init 20 = .ok (.invokespecial 20, 3) := by decide +kernel
theorem dX9_init_23 : decode cX9_init 23 = .ok (.putfield 21, 3) := by decide +kernel
theorem dX9_init_26 : decode cX9_init 26 = .ok (.aload_n 0, 1) := by decide +kernel
theorem dX9_init_27 : decode cX9_init 27 = .ok (.iconst 0, 1) := by decide +kernel
theorem dX9_init_28 : decode cX9_init 28 = .ok (.putfield 25, 3) := by decide +kernel
theorem dX9_init_31 : decode cX9_init 31 = .ok (.aload_n 0, 1) := by decide +kernel
theorem dX9_init_32 : decode cX9_init 32 = .ok (.iconst (-1), 1) := by decide +kernel
theorem dX9_init_33 : decode cX9_init 33 = .ok (.putfield 29, 3) := by decide +kernel
theorem dX9_init_36 : decode cX9_init 36 = .ok (.aload_n 0, 1) := by decide +kernel
theorem dX9_init_37 : decode cX9_init 37 = .ok (.bipush 12, 2) := by decide +kernel
theorem dX9_init_39 : decode cX9_init 39 = .ok (.newarray .int, 2) := by decide +kernel
theorem dX9_init_41 : decode cX9_init 41 = .ok (.putfield 32, 3) := by decide +kernel
theorem dX9_init_44 : decode cX9_init 44 = .ok (.aload_n 0, 1) := by decide +kernel
theorem dX9_init_45 : decode cX9_init 45 = .ok (.iconst 4, 1) := by decide +kernel
theorem dX9_init_46 : decode cX9_init 46 = .ok (.newarray .int, 2) := by decide +kernel
theorem dX9_init_48 : decode cX9_init 48 = .ok (.putfield 36, 3) := by decide +kernel
theorem dX9_init_51 : decode cX9_init 51 = .ok (.aload_n 0, 1) := by decide +kernel
theorem dX9_init_52 : decode cX9_init 52 = .ok (.iconst 4, 1) := by decide +kernel
theorem dX9_init_53 : decode cX9_init 53 = .ok (.newarray .int, 2) := by decide +kernel
theorem dX9_init_55 : decode cX9_init 55 = .ok (.putfield 39, 3) := by decide +kernel
theorem dX9_init_58 : decode cX9_init 58 = .ok (.aload_n 0, 1) := by decide +kernel
theorem dX9_init_59 : decode cX9_init 59 = .ok (.iconst 0, 1) := by decide +kernel
theorem dX9_init_60 : decode cX9_init 60 = .ok (.putfield 42, 3) := by decide +kernel
theorem dX9_init_63 : decode cX9_init 63 = .ok (.aload_n 0, 1) := by decide +kernel
theorem dX9_init_64 : decode cX9_init 64 = .ok (.aload_n 1, 1) := by decide +kernel
theorem dX9_init_65 : decode cX9_init 65 = .ok (.putfield 45, 3) := by decide +kernel
theorem dX9_init_68 : decode cX9_init 68 = .ok (.return_, 1) := by decide +kernel
theorem dX9_bestMove_0 : decode cX9_bestMove 0 = .ok (.iconst (-1), 1) := by decide +kernel
theorem dX9_bestMove_1 : decode cX9_bestMove 1 = .ok (.istore 5, 2) := by decide +kernel
theorem dX9_bestMove_3 : decode cX9_bestMove 3 = .ok (.iload 4, 2) := by decide +kernel
theorem dX9_bestMove_5 : decode cX9_bestMove 5 = .ok (.iconst (-1), 1) := by decide +kernel
theorem dX9_bestMove_6 : decode cX9_bestMove 6 = .ok (.if_icmp .ne 8, 3) := by decide +kernel
theorem dX9_bestMove_9 : decode cX9_bestMove 9 = .ok (.bipush 60, 2) := by decide +kernel
theorem dX9_bestMove_11 : decode cX9_bestMove 11 = .ok (.goto 12, 3) := by decide +kernel
theorem dX9_bestMove_14 : decode cX9_bestMove 14 = .ok (.bipush 60, 2) := by decide +kernel
theorem dX9_bestMove_16 : decode cX9_bestMove 16 = .ok (.iload 4, 2) := by decide +kernel
theorem dX9_bestMove_18 : decode cX9_bestMove 18 = .ok (.iconst 1, 1) := by decide +kernel
theorem dX9_bestMove_19 : decode cX9_bestMove 19 = .ok (.isub, 1) := by decide +kernel
theorem dX9_bestMove_20 : decode cX9_bestMove 20 = .ok (.invokestatic 49, 3) := by decide +kernel
theorem dX9_bestMove_23 : decode cX9_bestMove 23 = .ok (.istore 6, 2) := by decide +kernel
theorem dX9_bestMove_25 : decode cX9_bestMove 25 = .ok (.iconst 0, 1) := by decide +kernel
theorem dX9_bestMove_26 : decode cX9_bestMove 26 = .ok (.istore 7, 2) := by decide +kernel
theorem dX9_bestMove_28 : decode cX9_bestMove 28 = .ok (.iload 7, 2) := by decide +kernel
theorem dX9_bestMove_30 : decode cX9_bestMove 30 = .ok (.aload_n 1, 1) := by decide +kernel
theorem dX9_bestMove_31 : decode cX9_bestMove 31 = .ok (.getfield 55, 3) := by decide +kernel
theorem dX9_bestMove_34 : decode cX9_bestMove 34 = .ok (.if_icmp .ge 94, 3) := by decide +kernel
theorem dX9_bestMove_37 : decode cX9_bestMove 37 = .ok (.iconst 0, 1) := by decide +kernel
theorem dX9_bestMove_38 : decode cX9_bestMove 38 = .ok (.istore 8, 2) := by decide +kernel
theorem dX9_bestMove_40 : decode cX9_bestMove 40 = .ok (.iload 8, 2) := by decide +kernel
theorem dX9_bestMove_42 : decode cX9_bestMove 42 = .ok (.aload_n 1, 1) := by decide +kernel
theorem dX9_bestMove_43 : decode cX9_bestMove 43 = .ok (.getfield 58, 3) := by decide +kernel
theorem dX9_bestMove_46 : decode cX9_bestMove 46 = .ok (.if_icmp .ge 76, 3) := by decide +kernel
theorem dX9_bestMove_49 : decode cX9_bestMove 49 = .ok (.iload 6, 2) := by decide +kernel
theorem dX9_bestMove_51 : decode cX9_bestMove 51 = .ok (.ifCond .le 65, 3) := by decide +kernel
theorem dX9_bestMove_54 : decode cX9_bestMove 54 = .ok (.aload_n 1, 1) := by decide +kernel
theorem dX9_bestMove_55 : decode cX9_bestMove 55 = .ok (.getfield 61, 3) := by decide +kernel
theorem dX9_bestMove_58 : decode cX9_bestMove 58 = .ok (.iload 7, 2) := by decide +kernel
theorem dX9_bestMove_60 : decode cX9_bestMove 60 = .ok (.iaload, 1) := by decide +kernel
theorem dX9_bestMove_61 : decode cX9_bestMove 61 = .ok (.iload 8, 2) := by decide +kernel
theorem dX9_bestMove_63 : decode cX9_bestMove 63 = .ok (.if_icmp .eq 53, 3) := by decide +kernel
theorem dX9_bestMove_66 : decode cX9_bestMove 66 = .ok (.aload_n 0, 1) := by decide +kernel
theorem dX9_bestMove_67 : decode cX9_bestMove 67 = .ok (.getfield 12, 3) := by decide +kernel
theorem dX9_bestMove_70 : decode cX9_bestMove 70 = .ok (.aload_n 1, 1) := by decide +kernel
theorem dX9_bestMove_71 : decode cX9_bestMove 71 = .ok (.invokevirtual 64, 3) := by decide +kernel
theorem dX9_bestMove_74 : decode cX9_bestMove 74 = .ok (.aload_n 0, 1) := by decide +kernel
theorem dX9_bestMove_75 : decode cX9_bestMove 75 = .ok (.getfield 12, 3) := by decide +kernel
theorem dX9_bestMove_78 : decode cX9_bestMove 78 = .ok (.iload 7, 2) := by decide +kernel
theorem dX9_bestMove_80 : decode cX9_bestMove 80 = .ok (.iload 8, 2) := by decide +kernel
theorem dX9_bestMove_82 : decode cX9_bestMove 82 = .ok (.invokevirtual 68, 3) := by decide +kernel
theorem dX9_bestMove_85 : decode cX9_bestMove 85 = .ok (.aload_n 0, 1) := by decide +kernel
theorem dX9_bestMove_86 : decode cX9_bestMove 86 = .ok (.iload_n 2, 1) := by decide +kernel
theorem dX9_bestMove_87 : decode cX9_bestMove 87 = .ok (.iload_n 3, 1) := by decide +kernel
theorem dX9_bestMove_88 : decode cX9_bestMove 88 = .ok (.iload 6, 2) := by decide +kernel
theorem dX9_bestMove_90 : decode cX9_bestMove 90 = .ok (.invokevirtual 72, 3) := by decide +kernel
theorem dX9_bestMove_93 : decode cX9_bestMove 93 = .ok (.istore 9, 2) := by decide +kernel
theorem dX9_bestMove_95 : decode cX9_bestMove 95 = .ok (.iload 9, 2) := by decide +kernel
theorem dX9_bestMove_97 : decode cX9_bestMove 97 = .ok (.ifCond .le 19, 3) := by decide +kernel
theorem dX9_bestMove_100 : decode cX9_bestMove 100 = .ok (.bipush 100, 2) := by decide +kernel
theorem dX9_bestMove_102 : decode cX9_bestMove 102 = .ok (.iload 7, 2) := by decide +kernel
theorem dX9_bestMove_104 : decode cX9_bestMove 104 = .ok (.imul, 1) := by decide +kernel
theorem dX9_bestMove_105 : decode cX9_bestMove 105 = .ok (.iload 8, 2) := by decide +kernel
theorem dX9_bestMove_107 : decode cX9_bestMove 107 = .ok (.iadd, 1) := by decide +kernel
theorem dX9_bestMove_108 : decode cX9_bestMove 108 = .ok (.istore 5, 2) := by decide +kernel
theorem dX9_bestMove_110 : decode cX9_bestMove 110 = .ok (.iload 9, 2) := by decide +kernel
theorem dX9_bestMove_112 : decode cX9_bestMove 112 = .ok (.iconst 1, 1) := by decide +kernel
theorem dX9_bestMove_113 : decode cX9_bestMove 113 = .ok (.isub, 1) := by decide +kernel
theorem dX9_bestMove_114 : decode cX9_bestMove 114 = .ok (.istore 6, 2) := by decide +kernel
theorem dX9_bestMove_116 : decode cX9_bestMove 116 = .ok (.iinc 8 1, 3) := by decide +kernel
theorem dX9_bestMove_119 : decode cX9_bestMove 119 = .ok (.goto (-79), 3) := by decide +kernel
theorem dX9_bestMove_122 : decode cX9_bestMove 122 = .ok (.iinc 7 1, 3) := by decide +kernel
theorem dX9_bestMove_125 : decode cX9_bestMove 125 = .ok (.goto (-97), 3) := by decide +kernel
theorem dX9_bestMove_128 : decode cX9_bestMove 128 = .ok (.iload 5, 2) := by decide +kernel
theorem dX9_bestMove_130 : decode cX9_bestMove 130 = .ok (.ireturn, 1) := by decide +kernel
theorem dX9_untilMet_0 : decode cX9_untilMet 0 = .ok (.iconst 0, 1) := by decide +kernel
theorem dX9_untilMet_1 : decode cX9_untilMet 1 = .ok (.istore 4, 2) := by decide +kernel
theorem dX9_untilMet_3 : decode cX9_untilMet 3 = .ok (.iload 4, 2) := by decide +kernel
theorem dX9_untilMet_5 : decode cX9_untilMet 5 = .ok (.iload_n 3, 1) := by decide +kernel
theorem dX9_untilMet_6 : decode cX9_untilMet 6 = .ok (.if_icmp .gt 43, 3) := by decide +kernel
theorem dX9_untilMet_9 : decode cX9_untilMet 9 = .ok (.aload_n 0, 1) := by decide +kernel
theorem dX9_untilMet_10 : decode cX9_untilMet 10 = .ok (.getfield 12, 3) := by decide +kernel
theorem dX9_untilMet_13 : decode cX9_untilMet 13 = .ok (.iload_n 1, 1) := by decide +kernel
theorem dX9_untilMet_14 : decode cX9_untilMet 14 = .ok (.iload_n 2, 1) := by decide +kernel
theorem dX9_untilMet_15 : decode cX9_untilMet 15 = .ok (.invokevirtual 76, 3) := by decide +kernel
theorem dX9_untilMet_18 : decode cX9_untilMet 18 = .ok (.ifCond .eq 6, 3) := by decide +kernel
theorem dX9_untilMet_21 : decode cX9_untilMet 21 = .ok (.iload 4, 2) := by decide +kernel
theorem dX9_untilMet_23 : decode cX9_untilMet 23 = .ok (.ireturn, 1) := by decide +kernel
theorem dX9_untilMet_24 : decode cX9_untilMet 24 = .ok (.iload 4, 2) := by decide +kernel
theorem dX9_untilMet_26 : decode cX9_untilMet 26 = .ok (.iload_n 3, 1) := by decide +kernel
theorem dX9_untilMet_27 : decode cX9_untilMet 27 = .ok (.if_icmp .ge 16, 3) := by decide +kernel
theorem dX9_untilMet_30 : decode cX9_untilMet 30 = .ok (.aload_n 0, 1) := by decide +kernel
theorem dX9_untilMet_31 : decode cX9_untilMet 31 = .ok (.getfield 45, 3) := by decide +kernel
theorem dX9_untilMet_34 : decode cX9_untilMet 34 = .ok (.aload_n 0, 1) := by decide +kernel
theorem dX9_untilMet_35 : decode cX9_untilMet 35 = .ok (.getfield 12, 3) := by decide +kernel
theorem dX9_untilMet_38 : decode cX9_untilMet 38 = .ok (.iconst 0, 1) := by decide +kernel
theorem dX9_untilMet_39 : decode cX9_untilMet 39 = .ok (.invokevirtual 80, 3) := by decide +kernel
theorem dX9_untilMet_42 : decode cX9_untilMet 42 = .ok (.pop, 1) := by decide +kernel
theorem dX9_untilMet_43 : decode cX9_untilMet 43 = .ok (.iinc 4 1, 3) := by decide +kernel
theorem dX9_untilMet_46 : decode cX9_untilMet 46 = .ok (.goto (-43), 3) := by decide +kernel
theorem dX9_untilMet_49 : decode cX9_untilMet 49 = .ok (.iconst (-1), 1) := by decide +kernel
theorem dX9_untilMet_50 : decode cX9_untilMet 50 = .ok (.ireturn, 1) := by decide +kernel
theorem dX9_bestJoin_0 : decode cX9_bestJoin 0 = .ok (.iconst (-1), 1) := by decide +kernel
theorem dX9_bestJoin_1 : decode cX9_bestJoin 1 = .ok (.istore_n 3, 1) := by decide +kernel
theorem dX9_bestJoin_2 : decode cX9_bestJoin 2 = .ok (.iload_n 2, 1) := by decide +kernel
theorem dX9_bestJoin_3 : decode cX9_bestJoin 3 = .ok (.iconst (-1), 1) := by decide +kernel
theorem dX9_bestJoin_4 : decode cX9_bestJoin 4 = .ok (.if_icmp .ne 8, 3) := by decide +kernel
theorem dX9_bestJoin_7 : decode cX9_bestJoin 7 = .ok (.bipush 100, 2) := by decide +kernel
theorem dX9_bestJoin_9 : decode cX9_bestJoin 9 = .ok (.goto 6, 3) := by decide +kernel
theorem dX9_bestJoin_12 : decode cX9_bestJoin 12 = .ok (.iload_n 2, 1) := by decide +kernel
theorem dX9_bestJoin_13 : decode cX9_bestJoin 13 = .ok (.iconst 1, 1) := by decide +kernel
theorem dX9_bestJoin_14 : decode cX9_bestJoin 14 = .ok (.isub, 1) := by decide +kernel
theorem dX9_bestJoin_15 : decode cX9_bestJoin 15 = .ok (.istore 4, 2) := by decide +kernel
theorem dX9_bestJoin_17 : decode cX9_bestJoin 17 = .ok (.iconst 0, 1) := by decide +kernel
theorem dX9_bestJoin_18 : decode cX9_bestJoin 18 = .ok (.istore 5, 2) := by decide +kernel
theorem dX9_bestJoin_20 : decode cX9_bestJoin 20 = .ok (.iload 5, 2) := by decide +kernel
theorem dX9_bestJoin_22 : decode cX9_bestJoin 22 = .ok (.aload_n 1, 1) := by decide +kernel
theorem dX9_bestJoin_23 : decode cX9_bestJoin 23 = .ok (.getfield 58, 3) := by decide +kernel
theorem dX9_bestJoin_26 : decode cX9_bestJoin 26 = .ok (.if_icmp .ge 87, 3) := by decide +kernel
theorem dX9_bestJoin_29 : decode cX9_bestJoin 29 = .ok (.iconst 0, 1) := by decide +kernel
theorem dX9_bestJoin_30 : decode cX9_bestJoin 30 = .ok (.istore 6, 2) := by decide +kernel
theorem dX9_bestJoin_32 : decode cX9_bestJoin 32 = .ok (.iload 6, 2) := by decide +kernel
theorem dX9_bestJoin_34 : decode cX9_bestJoin 34 = .ok (.aload_n 1, 1) := by decide +kernel
theorem dX9_bestJoin_35 : decode cX9_bestJoin 35 = .ok (.getfield 58, 3) := by decide +kernel
theorem dX9_bestJoin_38 : decode cX9_bestJoin 38 = .ok (.if_icmp .ge 69, 3) := by decide +kernel
theorem dX9_bestJoin_41 : decode cX9_bestJoin 41 = .ok (.iload 4, 2) := by decide +kernel
theorem dX9_bestJoin_43 : decode cX9_bestJoin 43 = .ok (.ifCond .lt 58, 3) := by decide +kernel
theorem dX9_bestJoin_46 : decode cX9_bestJoin 46 = .ok (.iload 5, 2) := by decide +kernel
theorem dX9_bestJoin_48 : decode cX9_bestJoin 48 = .ok (.iload 6, 2) := by decide +kernel
theorem dX9_bestJoin_50 : decode cX9_bestJoin 50 = .ok (.if_icmp .eq 51, 3) := by decide +kernel
theorem dX9_bestJoin_53 : decode cX9_bestJoin 53 = .ok (.aload_n 0, 1) := by decide +kernel
theorem dX9_bestJoin_54 : decode cX9_bestJoin 54 = .ok (.getfield 12, 3) := by decide +kernel
theorem dX9_bestJoin_57 : decode cX9_bestJoin 57 = .ok (.aload_n 1, 1) := by decide +kernel
theorem dX9_bestJoin_58 : decode cX9_bestJoin 58 = .ok (.invokevirtual 64, 3) := by decide +kernel
theorem dX9_bestJoin_61 : decode cX9_bestJoin 61 = .ok (.aload_n 0, 1) := by decide +kernel
theorem dX9_bestJoin_62 : decode cX9_bestJoin 62 = .ok (.getfield 12, 3) := by decide +kernel
theorem dX9_bestJoin_65 : decode cX9_bestJoin 65 = .ok (.iload 5, 2) := by decide +kernel
theorem dX9_bestJoin_67 : decode cX9_bestJoin 67 = .ok (.iload 6, 2) := by decide +kernel
theorem dX9_bestJoin_69 : decode cX9_bestJoin 69 = .ok (.invokevirtual 86, 3) := by decide +kernel
theorem dX9_bestJoin_72 : decode cX9_bestJoin 72 = .ok (.aload_n 0, 1) := by decide +kernel
theorem dX9_bestJoin_73 : decode cX9_bestJoin 73 = .ok (.iload 4, 2) := by decide +kernel
theorem dX9_bestJoin_75 : decode cX9_bestJoin 75 = .ok (.invokevirtual 89, 3) := by decide +kernel
theorem dX9_bestJoin_78 : decode cX9_bestJoin 78 = .ok (.istore 7, 2) := by decide +kernel
theorem dX9_bestJoin_80 : decode cX9_bestJoin 80 = .ok (.iload 7, 2) := by decide +kernel
theorem dX9_bestJoin_82 : decode cX9_bestJoin 82 = .ok (.iconst (-1), 1) := by decide +kernel
theorem dX9_bestJoin_83 : decode cX9_bestJoin 83 = .ok (.if_icmp .eq 18, 3) := by decide +kernel
theorem dX9_bestJoin_86 : decode cX9_bestJoin 86 = .ok (.bipush 100, 2) := by decide +kernel
theorem dX9_bestJoin_88 : decode cX9_bestJoin 88 = .ok (.iload 5, 2) := by decide +kernel
theorem dX9_bestJoin_90 : decode cX9_bestJoin 90 = .ok (.imul, 1) := by decide +kernel
theorem dX9_bestJoin_91 : decode cX9_bestJoin 91 = .ok (.iload 6, 2) := by decide +kernel
theorem dX9_bestJoin_93 : decode cX9_bestJoin 93 = .ok (.iadd, 1) := by decide +kernel
theorem dX9_bestJoin_94 : decode cX9_bestJoin 94 = .ok (.istore_n 3, 1) := by decide +kernel
theorem dX9_bestJoin_95 : decode cX9_bestJoin 95 = .ok (.iload 7, 2) := by decide +kernel
theorem dX9_bestJoin_97 : decode cX9_bestJoin 97 = .ok (.iconst 1, 1) := by decide +kernel
theorem dX9_bestJoin_98 : decode cX9_bestJoin 98 = .ok (.isub, 1) := by decide +kernel
theorem dX9_bestJoin_99 : decode cX9_bestJoin 99 = .ok (.istore 4, 2) := by decide +kernel
theorem dX9_bestJoin_101 : decode cX9_bestJoin 101 = .ok (.iinc 6 1, 3) := by decide +kernel
theorem dX9_bestJoin_104 : decode cX9_bestJoin 104 = .ok (.goto (-72), 3) := by decide +kernel
theorem dX9_bestJoin_107 : decode cX9_bestJoin 107 = .ok (.iinc 5 1, 3) := by decide +kernel
theorem dX9_bestJoin_110 : decode cX9_bestJoin 110 = .ok (.goto (-90), 3) := by decide +kernel
theorem dX9_bestJoin_113 : decode cX9_bestJoin 113 = .ok (.iload_n 3, 1) := by decide +kernel
theorem dX9_bestJoin_114 : decode cX9_bestJoin 114 = .ok (.ireturn, 1) := by decide +kernel
theorem dX9_untilKnown_0 : decode cX9_untilKnown 0 = .ok (.aload_n 0, 1) := by decide +kernel
theorem dX9_untilKnown_1 : decode cX9_untilKnown 1 = .ok (.getfield 21, 3) := by decide +kernel
theorem dX9_untilKnown_4 : decode cX9_untilKnown 4 = .ok (.invokevirtual 93, 3) := by decide +kernel
theorem dX9_untilKnown_7 : decode cX9_untilKnown 7 = .ok (.iconst 0, 1) := by decide +kernel
theorem dX9_untilKnown_8 : decode cX9_untilKnown 8 = .ok (.istore_n 2, 1) := by decide +kernel
theorem dX9_untilKnown_9 : decode cX9_untilKnown 9 = .ok (.iload_n 2, 1) := by decide +kernel
theorem dX9_untilKnown_10 : decode cX9_untilKnown 10 = .ok (.iload_n 1, 1) := by decide +kernel
theorem dX9_untilKnown_11 : decode cX9_untilKnown 11 = .ok (.if_icmp .gt 57, 3) := by decide +kernel
theorem dX9_untilKnown_14 : decode cX9_untilKnown 14 = .ok (.aload_n 0, 1) := by decide +kernel
theorem dX9_untilKnown_15 : decode cX9_untilKnown 15 = .ok (.getfield 21, 3) := by decide +kernel
theorem dX9_untilKnown_18 : decode cX9_untilKnown 18 = .ok (.aload_n 0, 1) := by decide +kernel
theorem dX9_untilKnown_19 : decode cX9_untilKnown 19 = .ok (.getfield 12, 3) := by decide +kernel
theorem dX9_untilKnown_22 : decode cX9_untilKnown 22 = .ok (.invokevirtual 96, 3) := by decide +kernel
theorem dX9_untilKnown_25 : decode cX9_untilKnown 25 = .ok (.aload_n 0, 1) := by decide +kernel
theorem dX9_untilKnown_26 : decode cX9_untilKnown 26 = .ok (.getfield 21, 3) := by decide +kernel
theorem dX9_untilKnown_29 : decode cX9_untilKnown 29 = .ok (.aload_n 0, 1) := by decide +kernel
theorem dX9_untilKnown_30 : decode cX9_untilKnown 30 = .ok (.getfield 12, 3) := by decide +kernel
theorem dX9_untilKnown_33 : decode cX9_untilKnown 33 = .ok (.getfield 55, 3) := by decide +kernel
theorem dX9_untilKnown_36 : decode cX9_untilKnown 36 = .ok (.invokevirtual 99, 3) := by decide +kernel
theorem dX9_untilKnown_39 : decode cX9_untilKnown 39 = .ok (.ifCond .eq 5, 3) := by decide +kernel
theorem dX9_untilKnown_42 : decode cX9_untilKnown 42 = .ok (.iload_n 2, 1) := by decide +kernel
theorem dX9_untilKnown_43 : decode cX9_untilKnown 43 = .ok (.ireturn, 1) := by decide +kernel
theorem dX9_untilKnown_44 : decode cX9_untilKnown 44 = .ok (.iload_n 2, 1) := by decide +kernel
theorem dX9_untilKnown_45 : decode cX9_untilKnown 45 = .ok (.iload_n 1, 1) := by decide +kernel
theorem dX9_untilKnown_46 : decode cX9_untilKnown 46 = .ok (.if_icmp .ge 16, 3) := by decide +kernel
theorem dX9_untilKnown_49 : decode cX9_untilKnown 49 = .ok (.aload_n 0, 1) := by decide +kernel
theorem dX9_untilKnown_50 : decode cX9_untilKnown 50 = .ok (.getfield 45, 3) := by decide +kernel
theorem dX9_untilKnown_53 : decode cX9_untilKnown 53 = .ok (.aload_n 0, 1) := by decide +kernel
theorem dX9_untilKnown_54 : decode cX9_untilKnown 54 = .ok (.getfield 12, 3) := by decide +kernel
theorem dX9_untilKnown_57 : decode cX9_untilKnown 57 = .ok (.iconst 0, 1) := by decide +kernel
theorem dX9_untilKnown_58 : decode cX9_untilKnown 58 = .ok (.invokevirtual 80, 3) := by decide +kernel
theorem dX9_untilKnown_61 : decode cX9_untilKnown 61 = .ok (.pop, 1) := by decide +kernel
theorem dX9_untilKnown_62 : decode cX9_untilKnown 62 = .ok (.iinc 2 1, 3) := by decide +kernel
theorem dX9_untilKnown_65 : decode cX9_untilKnown 65 = .ok (.goto (-56), 3) := by decide +kernel
theorem dX9_untilKnown_68 : decode cX9_untilKnown 68 = .ok (.iconst (-1), 1) := by decide +kernel
theorem dX9_untilKnown_69 : decode cX9_untilKnown 69 = .ok (.ireturn, 1) := by decide +kernel
theorem dX9_isSoWithout_0 : decode cX9_isSoWithout 0 = .ok (.aload_n 0, 1) := by decide +kernel
theorem dX9_isSoWithout_1 : decode cX9_isSoWithout 1 = .ok (.getfield 12, 3) := by decide +kernel
theorem dX9_isSoWithout_4 : decode cX9_isSoWithout 4 = .ok (.aload_n 1, 1) := by decide +kernel
theorem dX9_isSoWithout_5 : decode cX9_isSoWithout 5 = .ok (.invokevirtual 64, 3) := by decide +kernel
theorem dX9_isSoWithout_8 : decode cX9_isSoWithout 8 = .ok (.aload_n 0, 1) := by decide +kernel
theorem dX9_isSoWithout_9 : decode cX9_isSoWithout 9 = .ok (.aload_n 2, 1) := by decide +kernel
theorem dX9_isSoWithout_10 : decode cX9_isSoWithout 10 = .ok (.invokevirtual 103, 3) := by decide +kernel
theorem dX9_isSoWithout_13 : decode cX9_isSoWithout 13 = .ok (.ireturn, 1) := by decide +kernel
theorem dX9_passesAsSeen_0 : decode cX9_passesAsSeen 0 = .ok (.aload_n 1, 1) := by decide +kernel
theorem dX9_passesAsSeen_1 : decode cX9_passesAsSeen 1 = .ok (.invokevirtual 107, 3) := by decide +kernel
theorem dX9_passesAsSeen_4 : decode cX9_passesAsSeen 4 = .ok (.istore_n 2, 1) := by decide +kernel
theorem dX9_passesAsSeen_5 : decode cX9_passesAsSeen 5 = .ok (.iconst 0, 1) := by decide +kernel
theorem dX9_passesAsSeen_6 : decode cX9_passesAsSeen 6 = .ok (.istore_n 3, 1) := by decide +kernel
theorem dX9_passesAsSeen_7 : decode cX9_passesAsSeen 7 = .ok (.iload_n 3, 1) := by decide +kernel
theorem dX9_passesAsSeen_8 : decode cX9_passesAsSeen 8 = .ok (.iload_n 2, 1) := by decide +kernel
theorem dX9_passesAsSeen_9 : decode cX9_passesAsSeen 9 = .ok (.if_icmp .gt 41, 3) := by decide +kernel
theorem dX9_passesAsSeen_12 : decode cX9_passesAsSeen 12 = .ok (.aload_n 1, 1) := by decide +kernel
theorem dX9_passesAsSeen_13 : decode cX9_passesAsSeen 13 = .ok (.aload_n 0, 1) := by decide +kernel
theorem dX9_passesAsSeen_14 : decode cX9_passesAsSeen 14 = .ok (.getfield 12, 3) := by decide +kernel
theorem dX9_passesAsSeen_17 : decode cX9_passesAsSeen 17 = .ok (.iload_n 3, 1) := by decide +kernel
theorem dX9_passesAsSeen_18 : decode cX9_passesAsSeen 18 = .ok (.invokevirtual 113, 3) := by decide +kernel
theorem dX9_passesAsSeen_21 : decode cX9_passesAsSeen 21 = .ok (.ifCond .ne 5, 3) := by decide +kernel
theorem dX9_passesAsSeen_24 : decode cX9_passesAsSeen 24 = .ok (.iconst 0, 1) := by decide +kernel
theorem dX9_passesAsSeen_25 : decode cX9_passesAsSeen 25 = .ok (.ireturn, 1) := by decide +kernel
theorem dX9_passesAsSeen_26 : decode cX9_passesAsSeen 26 = .ok (.iload_n 3, 1) := by decide +kernel
theorem dX9_passesAsSeen_27 : decode cX9_passesAsSeen 27 = .ok (.iload_n 2, 1) := by decide +kernel
theorem dX9_passesAsSeen_28 : decode cX9_passesAsSeen 28 = .ok (.if_icmp .ge 16, 3) := by decide +kernel
theorem dX9_passesAsSeen_31 : decode cX9_passesAsSeen 31 = .ok (.aload_n 0, 1) := by decide +kernel
theorem dX9_passesAsSeen_32 : decode cX9_passesAsSeen 32 = .ok (.getfield 45, 3) := by decide +kernel
theorem dX9_passesAsSeen_35 : decode cX9_passesAsSeen 35 = .ok (.aload_n 0, 1) := by decide +kernel
theorem dX9_passesAsSeen_36 : decode cX9_passesAsSeen 36 = .ok (.getfield 12, 3) := by decide +kernel
theorem dX9_passesAsSeen_39 : decode cX9_passesAsSeen 39 = .ok (.iconst 0, 1) := by decide +kernel
theorem dX9_passesAsSeen_40 : decode cX9_passesAsSeen 40 = .ok (.invokevirtual 80, 3) := by decide +kernel
theorem dX9_passesAsSeen_43 : decode cX9_passesAsSeen 43 = .ok (.pop, 1) := by decide +kernel
theorem dX9_passesAsSeen_44 : decode cX9_passesAsSeen 44 = .ok (.iinc 3 1, 3) := by decide +kernel
theorem dX9_passesAsSeen_47 : decode cX9_passesAsSeen 47 = .ok (.goto (-40), 3) := by decide +kernel
theorem dX9_passesAsSeen_50 : decode cX9_passesAsSeen 50 = .ok (.iconst 1, 1) := by decide +kernel
theorem dX9_passesAsSeen_51 : decode cX9_passesAsSeen 51 = .ok (.ireturn, 1) := by decide +kernel
theorem dX9_tryRanks_0 : decode cX9_tryRanks 0 = .ok (.aload_n 0, 1) := by decide +kernel
theorem dX9_tryRanks_1 : decode cX9_tryRanks 1 = .ok (.iconst 0, 1) := by decide +kernel
theorem dX9_tryRanks_2 : decode cX9_tryRanks 2 = .ok (.putfield 25, 3) := by decide +kernel
theorem dX9_tryRanks_5 : decode cX9_tryRanks 5 = .ok (.aload_n 0, 1) := by decide +kernel
theorem dX9_tryRanks_6 : decode cX9_tryRanks 6 = .ok (.iconst (-1), 1) := by decide +kernel
theorem dX9_tryRanks_7 : decode cX9_tryRanks 7 = .ok (.putfield 29, 3) := by decide +kernel
theorem dX9_tryRanks_10 : decode cX9_tryRanks 10 = .ok (.aload_n 0, 1) := by decide +kernel
theorem dX9_tryRanks_11 : decode cX9_tryRanks 11 = .ok (.getfield 32, 3) := by decide +kernel
theorem dX9_tryRanks_14 : decode cX9_tryRanks 14 = .ok (.iconst 0, 1) := by decide +kernel
theorem dX9_tryRanks_15 : decode cX9_tryRanks 15 = .ok (.invokestatic 117, 3) := by decide +kernel
theorem dX9_tryRanks_18 : decode cX9_tryRanks 18 = .ok (.iconst 0, 1) := by decide +kernel
theorem dX9_tryRanks_19 : decode cX9_tryRanks 19 = .ok (.istore 4, 2) := by decide +kernel
theorem dX9_tryRanks_21 : decode cX9_tryRanks 21 = .ok (.iload 4, 2) := by decide +kernel
theorem dX9_tryRanks_23 : decode cX9_tryRanks 23 = .ok (.aload_n 1, 1) := by decide +kernel
theorem dX9_tryRanks_24 : decode cX9_tryRanks 24 = .ok (.getfield 55, 3) := by decide +kernel
theorem dX9_tryRanks_27 : decode cX9_tryRanks 27 = .ok (.if_icmp .ge 100, 3) := by decide +kernel
theorem dX9_tryRanks_30 : decode cX9_tryRanks 30 = .ok (.iconst 0, 1) := by decide +kernel
theorem dX9_tryRanks_31 : decode cX9_tryRanks 31 = .ok (.istore 5, 2) := by decide +kernel
theorem dX9_tryRanks_33 : decode cX9_tryRanks 33 = .ok (.iload 5, 2) := by decide +kernel
theorem dX9_tryRanks_35 : decode cX9_tryRanks 35 = .ok (.bipush 9, 2) := by decide +kernel
theorem dX9_tryRanks_37 : decode cX9_tryRanks 37 = .ok (.if_icmp .gt 84, 3) := by decide +kernel
theorem dX9_tryRanks_40 : decode cX9_tryRanks 40 = .ok (.aload_n 0, 1) := by decide +kernel
theorem dX9_tryRanks_41 : decode cX9_tryRanks 41 = .ok (.aload_n 1, 1) := by decide +kernel
theorem dX9_tryRanks_42 : decode cX9_tryRanks 42 = .ok (.iload 4, 2) := by decide +kernel
theorem dX9_tryRanks_44 : decode cX9_tryRanks 44 = .ok (.iload 5, 2) := by decide +kernel
theorem dX9_tryRanks_46 : decode cX9_tryRanks 46 = .ok (.invokevirtual 123, 3) := by decide +kernel
theorem dX9_tryRanks_49 : decode cX9_tryRanks 49 = .ok (.iload 5, 2) := by decide +kernel
theorem dX9_tryRanks_51 : decode cX9_tryRanks 51 = .ok (.aload_n 1, 1) := by decide +kernel
theorem dX9_tryRanks_52 : decode cX9_tryRanks 52 = .ok (.getfield 127, 3) := by decide +kernel
theorem dX9_tryRanks_55 : decode cX9_tryRanks 55 = .ok (.iload 4, 2) := by decide +kernel
theorem dX9_tryRanks_57 : decode cX9_tryRanks 57 = .ok (.iaload, 1) := by decide +kernel
theorem dX9_tryRanks_58 : decode cX9_tryRanks 58 = .ok (.if_icmp .eq 57, 3) := by decide +kernel
theorem dX9_tryRanks_61 : decode cX9_tryRanks 61 = .ok (.aload_n 0, 1) := by decide +kernel
theorem dX9_tryRanks_62 : decode cX9_tryRanks 62 = .ok (.aload_n 2, 1) := by decide +kernel
theorem dX9_tryRanks_63 : decode cX9_tryRanks 63 = .ok (.invokevirtual 103, 3) := by decide +kernel
theorem dX9_tryRanks_66 : decode cX9_tryRanks 66 = .ok (.ifCond .eq 49, 3) := by decide +kernel
theorem dX9_tryRanks_69 : decode cX9_tryRanks 69 = .ok (.aload_n 0, 1) := by decide +kernel
theorem dX9_tryRanks_70 : decode cX9_tryRanks 70 = .ok (.getfield 25, 3) := by decide +kernel
theorem dX9_tryRanks_73 : decode cX9_tryRanks 73 = .ok (.ifCond .ne 15, 3) := by decide +kernel
theorem dX9_tryRanks_76 : decode cX9_tryRanks 76 = .ok (.aload_n 0, 1) := by decide +kernel
theorem dX9_tryRanks_77 : decode cX9_tryRanks 77 = .ok (.bipush 10, 2) := by decide +kernel
theorem dX9_tryRanks_79 : decode cX9_tryRanks 79 = .ok (.iload 4, 2) := by decide +kernel
theorem dX9_tryRanks_81 : decode cX9_tryRanks 81 = .ok (.imul, 1) := by decide +kernel
theorem dX9_tryRanks_82 : decode cX9_tryRanks 82 = .ok (.iload 5, 2) := by decide +kernel
theorem dX9_tryRanks_84 : decode cX9_tryRanks 84 = .ok (.iadd, 1) := by decide +kernel
theorem dX9_tryRanks_85 : decode cX9_tryRanks 85 = .ok (.putfield 29, 3) := by decide +kernel
theorem dX9_tryRanks_88 : decode cX9_tryRanks 88 = .ok (.aload_n 0, 1) := by decide +kernel
theorem dX9_tryRanks_89 : decode cX9_tryRanks 89 = .ok (.dup, 1) := by decide +kernel
theorem dX9_tryRanks_90 : decode cX9_tryRanks 90 = .ok (.getfield 25, 3) := by decide +kernel
theorem dX9_tryRanks_93 : decode cX9_tryRanks 93 = .ok (.iconst 1, 1) := by decide +kernel
theorem dX9_tryRanks_94 : decode cX9_tryRanks 94 = .ok (.iadd, 1) := by decide +kernel
theorem dX9_tryRanks_95 : decode cX9_tryRanks 95 = .ok (.putfield 25, 3) := by decide +kernel
theorem dX9_tryRanks_98 : decode cX9_tryRanks 98 = .ok (.iload_n 3, 1) := by decide +kernel
theorem dX9_tryRanks_99 : decode cX9_tryRanks 99 = .ok (.ifCond .eq 16, 3) := by decide +kernel
theorem dX9_tryRanks_102 : decode cX9_tryRanks 102 = .ok (.aload_n 0, 1) := by decide +kernel
theorem dX9_tryRanks_103 : decode cX9_tryRanks 103 = .ok (.aload_n 1, 1) := by decide +kernel
theorem dX9_tryRanks_104 : decode cX9_tryRanks 104 = .ok (.iload 4, 2) := by decide +kernel
theorem dX9_tryRanks_106 : decode cX9_tryRanks 106 = .ok (.iload 5, 2) := by decide +kernel
theorem dX9_tryRanks_108 : decode cX9_tryRanks 108 = .ok (.invokevirtual 123, 3) := by decide +kernel
theorem dX9_tryRanks_111 : decode cX9_tryRanks 111 = .ok (.aload_n 0, 1) := by decide +kernel
theorem dX9_tryRanks_112 : decode cX9_tryRanks 112 = .ok (.invokevirtual 130, 3) := by decide +kernel
theorem dX9_tryRanks_115 : decode cX9_tryRanks 115 = .ok (.iinc 5 1, 3) := by decide +kernel
theorem dX9_tryRanks_118 : decode cX9_tryRanks 118 = .ok (.goto (-85), 3) := by decide +kernel
theorem dX9_tryRanks_121 : decode cX9_tryRanks 121 = .ok (.iinc 4 1, 3) := by decide +kernel
theorem dX9_tryRanks_124 : decode cX9_tryRanks 124 = .ok (.goto (-103), 3) := by decide +kernel
theorem dX9_tryRanks_127 : decode cX9_tryRanks 127 = .ok (.return_, 1) := by decide +kernel
theorem dX9_tryWith_0 : decode cX9_tryWith 0 = .ok (.aload_n 0, 1) := by decide +kernel
theorem dX9_tryWith_1 : decode cX9_tryWith 1 = .ok (.getfield 12, 3) := by decide +kernel
theorem dX9_tryWith_4 : decode cX9_tryWith 4 = .ok (.aload_n 1, 1) := by decide +kernel
theorem dX9_tryWith_5 : decode cX9_tryWith 5 = .ok (.invokevirtual 64, 3) := by decide +kernel
theorem dX9_tryWith_8 : decode cX9_tryWith 8 = .ok (.aload_n 0, 1) := by decide +kernel
theorem dX9_tryWith_9 : decode cX9_tryWith 9 = .ok (.getfield 12, 3) := by decide +kernel
theorem dX9_tryWith_12 : decode cX9_tryWith 12 = .ok (.getfield 127, 3) := by decide +kernel
