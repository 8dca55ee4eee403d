theorem dX12_storms_124 : decode cX12_storms 124 = .ok (.isub, 1) := by decide +kernel
theorem dX12_storms_125 : decode cX12_storms 125 = .ok (.imul, 1) := by decide +kernel
theorem dX12_storms_126 : decode cX12_storms 126 = .ok (.istore 7, 2) := by decide +kernel
theorem dX12_storms_128 : decode cX12_storms 128 = .ok (.aload_n 0, 1) := by decide +kernel
theorem dX12_storms_129 : decode cX12_storms 129 = .ok (.bipush 86, 2) := by decide +kernel
theorem dX12_storms_131 : decode cX12_storms 131 = .ok (.invokevirtual 334, 3) := by decide +kernel
theorem dX12_storms_134 : decode cX12_storms 134 = .ok (.iinc 8 1, 3) := by decide +kernel
theorem dX12_storms_137 : decode cX12_storms 137 = .ok (.goto (-57), 3) := by decide +kernel
theorem dX12_storms_140 : decode cX12_storms 140 = .ok (.iload 5, 2) := by decide +kernel
theorem dX12_storms_142 : decode cX12_storms 142 = .ok (.aload_n 0, 1) := by decide +kernel
theorem dX12_storms_143 : decode cX12_storms 143 = .ok (.iload_n 1, 1) := by decide +kernel
theorem dX12_storms_144 : decode cX12_storms 144 = .ok (.iload_n 2, 1) := by decide +kernel
theorem dX12_storms_145 : decode cX12_storms 145 = .ok (.invokevirtual 408, 3) := by decide +kernel
theorem dX12_storms_148 : decode cX12_storms 148 = .ok (.ifCond .eq 8, 3) := by decide +kernel
theorem dX12_storms_151 : decode cX12_storms 151 = .ok (.iload 7, 2) := by decide +kernel
theorem dX12_storms_153 : decode cX12_storms 153 = .ok (.goto 4, 3) := by decide +kernel
theorem dX12_storms_156 : decode cX12_storms 156 = .ok (.iconst 0, 1) := by decide +kernel
theorem dX12_storms_157 : decode cX12_storms 157 = .ok (.iadd, 1) := by decide +kernel
theorem dX12_storms_158 : decode cX12_storms 158 = .ok (.istore 5, 2) := by decide +kernel
theorem dX12_storms_160 : decode cX12_storms 160 = .ok (.iinc 6 1, 3) := by decide +kernel
theorem dX12_storms_163 : decode cX12_storms 163 = .ok (.goto (-101), 3) := by decide +kernel
theorem dX12_storms_166 : decode cX12_storms 166 = .ok (.aload_n 0, 1) := by decide +kernel
theorem dX12_storms_167 : decode cX12_storms 167 = .ok (.iconst 0, 1) := by decide +kernel
theorem dX12_storms_168 : decode cX12_storms 168 = .ok (.putfield 294, 3) := by decide +kernel
theorem dX12_storms_171 : decode cX12_storms 171 = .ok (.iload 5, 2) := by decide +kernel
theorem dX12_storms_173 : decode cX12_storms 173 = .ok (.ireturn, 1) := by decide +kernel
theorem dX12_gains_0 : decode cX12_gains 0 = .ok (.aload_n 0, 1) := by decide +kernel
theorem dX12_gains_1 : decode cX12_gains 1 = .ok (.invokevirtual 337, 3) := by decide +kernel
theorem dX12_gains_4 : decode cX12_gains 4 = .ok (.aload_n 0, 1) := by decide +kernel
theorem dX12_gains_5 : decode cX12_gains 5 = .ok (.iload_n 3, 1) := by decide +kernel
theorem dX12_gains_6 : decode cX12_gains 6 = .ok (.iload_n 1, 1) := by decide +kernel
theorem dX12_gains_7 : decode cX12_gains 7 = .ok (.ishl, 1) := by decide +kernel
theorem dX12_gains_8 : decode cX12_gains 8 = .ok (.iload 4, 2) := by decide +kernel
theorem dX12_gains_10 : decode cX12_gains 10 = .ok (.iload_n 2, 1) := by decide +kernel
theorem dX12_gains_11 : decode cX12_gains 11 = .ok (.ishl, 1) := by decide +kernel
theorem dX12_gains_12 : decode cX12_gains 12 = .ok (.ior, 1) := by decide +kernel
theorem dX12_gains_13 : decode cX12_gains 13 = .ok (.putfield 313, 3) := by decide +kernel
theorem dX12_gains_16 : decode cX12_gains 16 = .ok (.aload_n 0, 1) := by decide +kernel
theorem dX12_gains_17 : decode cX12_gains 17 = .ok (.bipush 6, 2) := by decide +kernel
theorem dX12_gains_19 : decode cX12_gains 19 = .ok (.invokevirtual 340, 3) := by decide +kernel
theorem dX12_gains_22 : decode cX12_gains 22 = .ok (.aload_n 0, 1) := by decide +kernel
theorem dX12_gains_23 : decode cX12_gains 23 = .ok (.bipush 86, 2) := by decide +kernel
theorem dX12_gains_25 : decode cX12_gains 25 = .ok (.aload_n 0, 1) := by decide +kernel
theorem dX12_gains_26 : decode cX12_gains 26 = .ok (.getfield 48, 3) := by decide +kernel
theorem dX12_gains_29 : decode cX12_gains 29 = .ok (.bipush 88, 2) := by decide +kernel
theorem dX12_gains_31 : decode cX12_gains 31 = .ok (.iload_n 1, 1) := by decide +kernel
theorem dX12_gains_32 : decode cX12_gains 32 = .ok (.iadd, 1) := by decide +kernel
theorem dX12_gains_33 : decode cX12_gains 33 = .ok (.iaload, 1) := by decide +kernel
theorem dX12_gains_34 : decode cX12_gains 34 = .ok (.invokevirtual 297, 3) := by decide +kernel
theorem dX12_gains_37 : decode cX12_gains 37 = .ok (.aload_n 0, 1) := by decide +kernel
theorem dX12_gains_38 : decode cX12_gains 38 = .ok (.bipush 86, 2) := by decide +kernel
theorem dX12_gains_40 : decode cX12_gains 40 = .ok (.iload_n 1, 1) := by decide +kernel
theorem dX12_gains_41 : decode cX12_gains 41 = .ok (.invokevirtual 374, 3) := by decide +kernel
theorem dX12_gains_44 : decode cX12_gains 44 = .ok (.aload_n 0, 1) := by decide +kernel
theorem dX12_gains_45 : decode cX12_gains 45 = .ok (.iload_n 1, 1) := by decide +kernel
theorem dX12_gains_46 : decode cX12_gains 46 = .ok (.invokevirtual 377, 3) := by decide +kernel
theorem dX12_gains_49 : decode cX12_gains 49 = .ok (.iand, 1) := by decide +kernel
theorem dX12_gains_50 : decode cX12_gains 50 = .ok (.invokestatic 291, 3) := by decide +kernel
theorem dX12_gains_53 : decode cX12_gains 53 = .ok (.iadd, 1) := by decide +kernel
theorem dX12_gains_54 : decode cX12_gains 54 = .ok (.iload_n 3, 1) := by decide +kernel
theorem dX12_gains_55 : decode cX12_gains 55 = .ok (.isub, 1) := by decide +kernel
theorem dX12_gains_56 : decode cX12_gains 56 = .ok (.ireturn, 1) := by decide +kernel
theorem dX12_game_0 : decode cX12_game 0 = .ok (.aload_n 0, 1) := by decide +kernel
theorem dX12_game_1 : decode cX12_game 1 = .ok (.iconst 0, 1) := by decide +kernel
theorem dX12_game_2 : decode cX12_game 2 = .ok (.putfield 96, 3) := by decide +kernel
theorem dX12_game_5 : decode cX12_game 5 = .ok (.aload_n 0, 1) := by decide +kernel
theorem dX12_game_6 : decode cX12_game 6 = .ok (.iload_n 1, 1) := by decide +kernel
theorem dX12_game_7 : decode cX12_game 7 = .ok (.invokevirtual 368, 3) := by decide +kernel
theorem dX12_game_10 : decode cX12_game 10 = .ok (.ifCond .eq 38, 3) := by decide +kernel
theorem dX12_game_13 : decode cX12_game 13 = .ok (.aload_n 0, 1) := by decide +kernel
theorem dX12_game_14 : decode cX12_game 14 = .ok (.iload_n 2, 1) := by decide +kernel
theorem dX12_game_15 : decode cX12_game 15 = .ok (.invokevirtual 368, 3) := by decide +kernel
theorem dX12_game_18 : decode cX12_game 18 = .ok (.ifCond .eq 30, 3) := by decide +kernel
theorem dX12_game_21 : decode cX12_game 21 = .ok (.aload_n 0, 1) := by decide +kernel
theorem dX12_game_22 : decode cX12_game 22 = .ok (.iload_n 3, 1) := by decide +kernel
theorem dX12_game_23 : decode cX12_game 23 = .ok (.iconst 1, 1) := by decide +kernel
theorem dX12_game_24 : decode cX12_game 24 = .ok (.invokevirtual 371, 3) := by decide +kernel
theorem dX12_game_27 : decode cX12_game 27 = .ok (.ifCond .eq 21, 3) := by decide +kernel
theorem dX12_game_30 : decode cX12_game 30 = .ok (.aload_n 0, 1) := by decide +kernel
theorem dX12_game_31 : decode cX12_game 31 = .ok (.iload_n 1, 1) := by decide +kernel
theorem dX12_game_32 : decode cX12_game 32 = .ok (.iload_n 2, 1) := by decide +kernel
theorem dX12_game_33 : decode cX12_game 33 = .ok (.if_icmp .eq 7, 3) := by decide +kernel
theorem dX12_game_36 : decode cX12_game 36 = .ok (.iconst 1, 1) := by decide +kernel
theorem dX12_game_37 : decode cX12_game 37 = .ok (.goto 4, 3) := by decide +kernel
theorem dX12_game_40 : decode cX12_game 40 = .ok (.iconst 0, 1) := by decide +kernel
theorem dX12_game_41 : decode cX12_game 41 = .ok (.iconst 2, 1) := by decide +kernel
theorem dX12_game_42 : decode cX12_game 42 = .ok (.invokevirtual 257, 3) := by decide +kernel
theorem dX12_game_45 : decode cX12_game 45 = .ok (.ifCond .ne 5, 3) := by decide +kernel
theorem dX12_game_48 : decode cX12_game 48 = .ok (.iconst 0, 1) := by decide +kernel
theorem dX12_game_49 : decode cX12_game 49 = .ok (.ireturn, 1) := by decide +kernel
theorem dX12_game_50 : decode cX12_game 50 = .ok (.iconst 0, 1) := by decide +kernel
theorem dX12_game_51 : decode cX12_game 51 = .ok (.istore 4, 2) := by decide +kernel
theorem dX12_game_53 : decode cX12_game 53 = .ok (.iconst (-1), 1) := by decide +kernel
theorem dX12_game_54 : decode cX12_game 54 = .ok (.istore 5, 2) := by decide +kernel
theorem dX12_game_56 : decode cX12_game 56 = .ok (.iconst 0, 1) := by decide +kernel
theorem dX12_game_57 : decode cX12_game 57 = .ok (.istore 6, 2) := by decide +kernel
theorem dX12_game_59 : decode cX12_game 59 = .ok (.iload 6, 2) := by decide +kernel
theorem dX12_game_61 : decode cX12_game 61 = .ok (.iconst 4, 1) := by decide +kernel
theorem dX12_game_62 : decode cX12_game 62 = .ok (.if_icmp .ge 93, 3) := by decide +kernel
theorem dX12_game_65 : decode cX12_game 65 = .ok (.iload 6, 2) := by decide +kernel
theorem dX12_game_67 : decode cX12_game 67 = .ok (.iconst 2, 1) := by decide +kernel
theorem dX12_game_68 : decode cX12_game 68 = .ok (.idiv, 1) := by decide +kernel
theorem dX12_game_69 : decode cX12_game 69 = .ok (.istore 7, 2) := by decide +kernel
theorem dX12_game_71 : decode cX12_game 71 = .ok (.iload 6, 2) := by decide +kernel
theorem dX12_game_73 : decode cX12_game 73 = .ok (.iconst 2, 1) := by decide +kernel
theorem dX12_game_74 : decode cX12_game 74 = .ok (.irem, 1) := by decide +kernel
theorem dX12_game_75 : decode cX12_game 75 = .ok (.istore 8, 2) := by decide +kernel
theorem dX12_game_77 : decode cX12_game 77 = .ok (.aload_n 0, 1) := by decide +kernel
theorem dX12_game_78 : decode cX12_game 78 = .ok (.iload_n 1, 1) := by decide +kernel
theorem dX12_game_79 : decode cX12_game 79 = .ok (.iload_n 2, 1) := by decide +kernel
theorem dX12_game_80 : decode cX12_game 80 = .ok (.iconst 1, 1) := by decide +kernel
theorem dX12_game_81 : decode cX12_game 81 = .ok (.iload 7, 2) := by decide +kernel
theorem dX12_game_83 : decode cX12_game 83 = .ok (.isub, 1) := by decide +kernel
theorem dX12_game_84 : decode cX12_game 84 = .ok (.iload 8, 2) := by decide +kernel
theorem dX12_game_86 : decode cX12_game 86 = .ok (.invokevirtual 451, 3) := by decide +kernel
theorem dX12_game_89 : decode cX12_game 89 = .ok (.aload_n 0, 1) := by decide +kernel
theorem dX12_game_90 : decode cX12_game 90 = .ok (.iload_n 1, 1) := by decide +kernel
theorem dX12_game_91 : decode cX12_game 91 = .ok (.iload_n 2, 1) := by decide +kernel
theorem dX12_game_92 : decode cX12_game 92 = .ok (.iload 7, 2) := by decide +kernel
theorem dX12_game_94 : decode cX12_game 94 = .ok (.iload 8, 2) := by decide +kernel
theorem dX12_game_96 : decode cX12_game 96 = .ok (.invokevirtual 451, 3) := by decide +kernel
theorem dX12_game_99 : decode cX12_game 99 = .ok (.if_icmp .gt 50, 3) := by decide +kernel
theorem dX12_game_102 : decode cX12_game 102 = .ok (.aload_n 0, 1) := by decide +kernel
theorem dX12_game_103 : decode cX12_game 103 = .ok (.iload_n 2, 1) := by decide +kernel
theorem dX12_game_104 : decode cX12_game 104 = .ok (.iload_n 1, 1) := by decide +kernel
theorem dX12_game_105 : decode cX12_game 105 = .ok (.iconst 1, 1) := by decide +kernel
theorem dX12_game_106 : decode cX12_game 106 = .ok (.iload 8, 2) := by decide +kernel
theorem dX12_game_108 : decode cX12_game 108 = .ok (.isub, 1) := by decide +kernel
theorem dX12_game_109 : decode cX12_game 109 = .ok (.iload 7, 2) := by decide +kernel
theorem dX12_game_111 : decode cX12_game 111 = .ok (.invokevirtual 451, 3) := by decide +kernel
theorem dX12_game_114 : decode cX12_game 114 = .ok (.aload_n 0, 1) := by decide +kernel
theorem dX12_game_115 : decode cX12_game 115 = .ok (.iload_n 2, 1) := by decide +kernel
theorem dX12_game_116 : decode cX12_game 116 = .ok (.iload_n 1, 1) := by decide +kernel
theorem dX12_game_117 : decode cX12_game 117 = .ok (.iload 8, 2) := by decide +kernel
theorem dX12_game_119 : decode cX12_game 119 = .ok (.iload 7, 2) := by decide +kernel
theorem dX12_game_121 : decode cX12_game 121 = .ok (.invokevirtual 451, 3) := by decide +kernel
theorem dX12_game_124 : decode cX12_game 124 = .ok (.if_icmp .le 6, 3) := by decide +kernel
theorem dX12_game_127 : decode cX12_game 127 = .ok (.goto 22, 3) := by decide +kernel
theorem dX12_game_130 : decode cX12_game 130 = .ok (.iinc 4 1, 3) := by decide +kernel
theorem dX12_game_133 : decode cX12_game 133 = .ok (.iload 5, 2) := by decide +kernel
theorem dX12_game_135 : decode cX12_game 135 = .ok (.iconst (-1), 1) := by decide +kernel
theorem dX12_game_136 : decode cX12_game 136 = .ok (.if_icmp .ne 13, 3) := by decide +kernel
theorem dX12_game_139 : decode cX12_game 139 = .ok (.bipush 10, 2) := by decide +kernel
theorem dX12_game_141 : decode cX12_game 141 = .ok (.iload 7, 2) := by decide +kernel
theorem dX12_game_143 : decode cX12_game 143 = .ok (.imul, 1) := by decide +kernel
theorem dX12_game_144 : decode cX12_game 144 = .ok (.iload 8, 2) := by decide +kernel
theorem dX12_game_146 : decode cX12_game 146 = .ok (.iadd, 1) := by decide +kernel
theorem dX12_game_147 : decode cX12_game 147 = .ok (.istore 5, 2) := by decide +kernel
theorem dX12_game_149 : decode cX12_game 149 = .ok (.iinc 6 1, 3) := by decide +kernel
theorem dX12_game_152 : decode cX12_game 152 = .ok (.goto (-93), 3) := by decide +kernel
theorem dX12_game_155 : decode cX12_game 155 = .ok (.iload_n 3, 1) := by decide +kernel
theorem dX12_game_156 : decode cX12_game 156 = .ok (.ifCond .ne 8, 3) := by decide +kernel
theorem dX12_game_159 : decode cX12_game 159 = .ok (.iload 4, 2) := by decide +kernel
theorem dX12_game_161 : decode cX12_game 161 = .ok (.goto 5, 3) := by decide +kernel
theorem dX12_game_164 : decode cX12_game 164 = .ok (.iload 5, 2) := by decide +kernel
theorem dX12_game_166 : decode cX12_game 166 = .ok (.ireturn, 1) := by decide +kernel
theorem dX12_draw_0 : decode cX12_draw 0 = .ok (.aload_n 0, 1) := by decide +kernel
theorem dX12_draw_1 : decode cX12_draw 1 = .ok (.aload_n 0, 1) := by decide +kernel
theorem dX12_draw_2 : decode cX12_draw 2 = .ok (.getfield 455, 3) := by decide +kernel
theorem dX12_draw_5 : decode cX12_draw 5 = .ok (.ldc_w 458, 3) := by decide +kernel
theorem dX12_draw_8 : decode cX12_draw 8 = .ok (.imul, 1) := by decide +kernel
theorem dX12_draw_9 : decode cX12_draw 9 = .ok (.sipush 12345, 3) := by decide +kernel
theorem dX12_draw_12 : decode cX12_draw 12 = .ok (.iadd, 1) := by decide +kernel
theorem dX12_draw_13 : decode cX12_draw 13 = .ok (.putfield 455, 3) := by decide +kernel
theorem dX12_draw_16 : decode cX12_draw 16 = .ok (.aload_n 0, 1) := by decide +kernel
theorem dX12_draw_17 : decode cX12_draw 17 = .ok (.getfield 455, 3) := by decide +kernel
theorem dX12_draw_20 : decode cX12_draw 20 = .ok (.bipush 16, 2) := by decide +kernel
theorem dX12_draw_22 : decode cX12_draw 22 = .ok (.ishr, 1) := by decide +kernel
theorem dX12_draw_23 : decode cX12_draw 23 = .ok (.sipush 32767, 3) := by decide +kernel
theorem dX12_draw_26 : decode cX12_draw 26 = .ok (.iand, 1) := by decide +kernel
theorem dX12_draw_27 : decode cX12_draw 27 = .ok (.iload_n 1, 1) := by decide +kernel
theorem dX12_draw_28 : decode cX12_draw 28 = .ok (.irem, 1) := by decide +kernel
theorem dX12_draw_29 : decode cX12_draw 29 = .ok (.ireturn, 1) := by decide +kernel
theorem dX12_happens_0 : decode cX12_happens 0 = .ok (.aload_n 0, 1) := by decide +kernel
theorem dX12_happens_1 : decode cX12_happens 1 = .ok (.bipush 6, 2) := by decide +kernel
theorem dX12_happens_3 : decode cX12_happens 3 = .ok (.invokevirtual 459, 3) := by decide +kernel
theorem dX12_happens_6 : decode cX12_happens 6 = .ok (.istore_n 1, 1) := by decide +kernel
theorem dX12_happens_7 : decode cX12_happens 7 = .ok (.iload_n 1, 1) := by decide +kernel
theorem dX12_happens_8 : decode cX12_happens 8 = .ok (.iconst 2, 1) := by decide +kernel
theorem dX12_happens_9 : decode cX12_happens 9 = .ok (.if_icmp .gt 10, 3) := by decide +kernel
theorem dX12_happens_12 : decode cX12_happens 12 = .ok (.aload_n 0, 1) := by decide +kernel
theorem dX12_happens_13 : decode cX12_happens 13 = .ok (.getfield 264, 3) := by decide +kernel
theorem dX12_happens_16 : decode cX12_happens 16 = .ok (.ifCond .ne 4, 3) := by decide +kernel
theorem dX12_happens_19 : decode cX12_happens 19 = .ok (.return_, 1) := by decide +kernel
theorem dX12_happens_20 : decode cX12_happens 20 = .ok (.iload_n 1, 1) := by decide +kernel
theorem dX12_happens_21 : decode cX12_happens 21 = .ok (.iconst 2, 1) := by decide +kernel
theorem dX12_happens_22 : decode cX12_happens 22 = .ok (.if_icmp .ne 28, 3) := by decide +kernel
theorem dX12_happens_25 : decode cX12_happens 25 = .ok (.aload_n 0, 1) := by decide +kernel
theorem dX12_happens_26 : decode cX12_happens 26 = .ok (.aload_n 0, 1) := by decide +kernel
theorem dX12_happens_27 : decode cX12_happens 27 = .ok (.getfield 48, 3) := by decide +kernel
theorem dX12_happens_30 : decode cX12_happens 30 = .ok (.bipush 87, 2) := by decide +kernel
theorem dX12_happens_32 : decode cX12_happens 32 = .ok (.iaload, 1) := by decide +kernel
theorem dX12_happens_33 : decode cX12_happens 33 = .ok (.invokevirtual 459, 3) := by decide +kernel
theorem dX12_happens_36 : decode cX12_happens 36 = .ok (.istore_n 2, 1) := by decide +kernel
theorem dX12_happens_37 : decode cX12_happens 37 = .ok (.iload_n 2, 1) := by decide +kernel
theorem dX12_happens_38 : decode cX12_happens 38 = .ok (.ifCond .le 11, 3) := by decide +kernel
theorem dX12_happens_41 : decode cX12_happens 41 = .ok (.aload_n 0, 1) := by decide +kernel
theorem dX12_happens_42 : decode cX12_happens 42 = .ok (.bipush 86, 2) := by decide +kernel
theorem dX12_happens_44 : decode cX12_happens 44 = .ok (.iload_n 2, 1) := by decide +kernel
theorem dX12_happens_45 : decode cX12_happens 45 = .ok (.iconst 0, 1) := by decide +kernel
theorem dX12_happens_46 : decode cX12_happens 46 = .ok (.invokevirtual 399, 3) := by decide +kernel
theorem dX12_happens_49 : decode cX12_happens 49 = .ok (.return_, 1) := by decide +kernel
theorem dX12_happens_50 : decode cX12_happens 50 = .ok (.aload_n 0, 1) := by decide +kernel
theorem dX12_happens_51 : decode cX12_happens 51 = .ok (.aload_n 0, 1) := by decide +kernel
theorem dX12_happens_52 : decode cX12_happens 52 = .ok (.getfield 264, 3) := by decide +kernel
theorem dX12_happens_55 : decode cX12_happens 55 = .ok (.invokevirtual 459, 3) := by decide +kernel
theorem dX12_happens_58 : decode cX12_happens 58 = .ok (.istore_n 2, 1) := by decide +kernel
theorem dX12_happens_59 : decode cX12_happens 59 = .ok (.iload_n 1, 1) := by decide +kernel
theorem dX12_happens_60 : decode cX12_happens 60 = .ok (.iconst 1, 1) := by decide +kernel
theorem dX12_happens_61 : decode cX12_happens 61 = .ok (.if_icmp .ne 22, 3) := by decide +kernel
theorem dX12_happens_64 : decode cX12_happens 64 = .ok (.aload_n 0, 1) := by decide +kernel
theorem dX12_happens_65 : decode cX12_happens 65 = .ok (.getfield 48, 3) := by decide +kernel
theorem dX12_happens_68 : decode cX12_happens 68 = .ok (.sipush 136, 3) := by decide +kernel
theorem dX12_happens_71 : decode cX12_happens 71 = .ok (.iload_n 2, 1) := by decide +kernel
theorem dX12_happens_72 : decode cX12_happens 72 = .ok (.iadd, 1) := by decide +kernel
theorem dX12_happens_73 : decode cX12_happens 73 = .ok (.aload_n 0, 1) := by decide +kernel
theorem dX12_happens_74 : decode cX12_happens 74 = .ok (.bipush 10, 2) := by decide +kernel
theorem dX12_happens_76 : decode cX12_happens 76 = .ok (.invokevirtual 459, 3) := by decide +kernel
theorem dX12_happens_79 : decode cX12_happens 79 = .ok (.iastore, 1) := by decide +kernel
theorem dX12_happens_80 : decode cX12_happens 80 = .ok (.goto 20, 3) := by decide +kernel
theorem dX12_happens_83 : decode cX12_happens 83 = .ok (.aload_n 0, 1) := by decide +kernel
theorem dX12_happens_84 : decode cX12_happens 84 = .ok (.bipush 86, 2) := by decide +kernel
theorem dX12_happens_86 : decode cX12_happens 86 = .ok (.iload_n 2, 1) := by decide +kernel
theorem dX12_happens_87 : decode cX12_happens 87 = .ok (.invokevirtual 374, 3) := by decide +kernel
theorem dX12_happens_90 : decode cX12_happens 90 = .ok (.ifCond .eq 10, 3) := by decide +kernel
theorem dX12_happens_93 : decode cX12_happens 93 = .ok (.aload_n 0, 1) := by decide +kernel
theorem dX12_happens_94 : decode cX12_happens 94 = .ok (.bipush 86, 2) := by decide +kernel
theorem dX12_happens_96 : decode cX12_happens 96 = .ok (.iload_n 2, 1) := by decide +kernel
theorem dX12_happens_97 : decode cX12_happens 97 = .ok (.invokevirtual 396, 3) := by decide +kernel
theorem dX12_happens_100 : decode cX12_happens 100 = .ok (.return_, 1) := by decide +kernel
theorem dX12_years_0 : decode cX12_years 0 = .ok (.aload_n 0, 1) := by decide +kernel
theorem dX12_years_1 : decode cX12_years 1 = .ok (.iconst 0, 1) := by decide +kernel
theorem dX12_years_2 : decode cX12_years 2 = .ok (.putfield 96, 3) := by decide +kernel
theorem dX12_years_5 : decode cX12_years 5 = .ok (.aload_n 0, 1) := by decide +kernel
theorem dX12_years_6 : decode cX12_years 6 = .ok (.iload_n 3, 1) := by decide +kernel
theorem dX12_years_7 : decode cX12_years 7 = .ok (.iconst 2, 1) := by decide +kernel
theorem dX12_years_8 : decode cX12_years 8 = .ok (.invokevirtual 371, 3) := by decide +kernel
theorem dX12_years_11 : decode cX12_years 11 = .ok (.ifCond .eq 13, 3) := by decide +kernel
theorem dX12_years_14 : decode cX12_years 14 = .ok (.aload_n 0, 1) := by decide +kernel
theorem dX12_years_15 : decode cX12_years 15 = .ok (.iload_n 2, 1) := by decide +kernel
theorem dX12_years_16 : decode cX12_years 16 = .ok (.iconst 0, 1) := by decide +kernel
theorem dX12_years_17 : decode cX12_years 17 = .ok (.iconst 2, 1) := by decide +kernel
theorem dX12_years_18 : decode cX12_years 18 = .ok (.invokevirtual 402, 3) := by decide +kernel
theorem dX12_years_21 : decode cX12_years 21 = .ok (.ifCond .ne 5, 3) := by decide +kernel
theorem dX12_years_24 : decode cX12_years 24 = .ok (.iconst 0, 1) := by decide +kernel
theorem dX12_years_25 : decode cX12_years 25 = .ok (.ireturn, 1) := by decide +kernel
theorem dX12_years_26 : decode cX12_years 26 = .ok (.aload_n 0, 1) := by decide +kernel
theorem dX12_years_27 : decode cX12_years 27 = .ok (.invokevirtual 337, 3) := by decide +kernel
theorem dX12_years_30 : decode cX12_years 30 = .ok (.aload_n 0, 1) := by decide +kernel
theorem dX12_years_31 : decode cX12_years 31 = .ok (.iload_n 1, 1) := by decide +kernel
theorem dX12_years_32 : decode cX12_years 32 = .ok (.putfield 455, 3) := by decide +kernel
theorem dX12_years_35 : decode cX12_years 35 = .ok (.iconst 0, 1) := by decide +kernel
theorem dX12_years_36 : decode cX12_years 36 = .ok (.istore 4, 2) := by decide +kernel
theorem dX12_years_38 : decode cX12_years 38 = .ok (.iconst 0, 1) := by decide +kernel
theorem dX12_years_39 : decode cX12_years 39 = .ok (.istore 5, 2) := by decide +kernel
theorem dX12_years_41 : decode cX12_years 41 = .ok (.iload 5, 2) := by decide +kernel
theorem dX12_years_43 : decode cX12_years 43 = .ok (.iload_n 2, 1) := by decide +kernel
theorem dX12_years_44 : decode cX12_years 44 = .ok (.if_icmp .ge 31, 3) := by decide +kernel
theorem dX12_years_47 : decode cX12_years 47 = .ok (.aload_n 0, 1) := by decide +kernel
theorem dX12_years_48 : decode cX12_years 48 = .ok (.invokevirtual 462, 3) := by decide +kernel
theorem dX12_years_51 : decode cX12_years 51 = .ok (.aload_n 0, 1) := by decide +kernel
theorem dX12_years_52 : decode cX12_years 52 = .ok (.bipush 86, 2) := by decide +kernel
theorem dX12_years_54 : decode cX12_years 54 = .ok (.invokevirtual 334, 3) := by decide +kernel
theorem dX12_years_57 : decode cX12_years 57 = .ok (.iload 4, 2) := by decide +kernel
theorem dX12_years_59 : decode cX12_years 59 = .ok (.aload_n 0, 1) := by decide +kernel
theorem dX12_years_60 : decode cX12_years 60 = .ok (.getfield 322, 3) := by decide +kernel
theorem dX12_years_63 : decode cX12_years 63 = .ok (.invokestatic 291, 3) := by decide +kernel
theorem dX12_years_66 : decode cX12_years 66 = .ok (.iadd, 1) := by decide +kernel
theorem dX12_years_67 : decode cX12_years 67 = .ok (.istore 4, 2) := by decide +kernel
theorem dX12_years_69 : decode cX12_years 69 = .ok (.iinc 5 1, 3) := by decide +kernel
theorem dX12_years_72 : decode cX12_years 72 = .ok (.goto (-31), 3) := by decide +kernel
theorem dX12_years_75 : decode cX12_years 75 = .ok (.iload_n 3, 1) := by decide +kernel
theorem dX12_years_76 : decode cX12_years 76 = .ok (.ifCond .ne 8, 3) := by decide +kernel
theorem dX12_years_79 : decode cX12_years 79 = .ok (.iload 4, 2) := by decide +kernel
theorem dX12_years_81 : decode cX12_years 81 = .ok (.goto 24, 3) := by decide +kernel
theorem dX12_years_84 : decode cX12_years 84 = .ok (.iload_n 3, 1) := by decide +kernel
theorem dX12_years_85 : decode cX12_years 85 = .ok (.iconst 1, 1) := by decide +kernel
theorem dX12_years_86 : decode cX12_years 86 = .ok (.if_icmp .ne 13, 3) := by decide +kernel
theorem dX12_years_89 : decode cX12_years 89 = .ok (.aload_n 0, 1) := by decide +kernel
theorem dX12_years_90 : decode cX12_years 90 = .ok (.getfield 48, 3) := by decide +kernel
theorem dX12_years_93 : decode cX12_years 93 = .ok (.bipush 87, 2) := by decide +kernel
theorem dX12_years_95 : decode cX12_years 95 = .ok (.iaload, 1) := by decide +kernel
theorem dX12_years_96 : decode cX12_years 96 = .ok (.goto 9, 3) := by decide +kernel
theorem dX12_years_99 : decode cX12_years 99 = .ok (.aload_n 0, 1) := by decide +kernel
theorem dX12_years_100 : decode cX12_years 100 = .ok (.bipush 86, 2) := by decide +kernel
theorem dX12_years_102 : decode cX12_years 102 = .ok (.invokevirtual 350, 3) := by decide +kernel
theorem dX12_years_105 : decode cX12_years 105 = .ok (.ireturn, 1) := by decide +kernel
theorem dX12_image_0 : decode cX12_image 0 = .ok (.aload_n 0, 1) := by decide +kernel
theorem dX12_image_1 : decode cX12_image 1 = .ok (.iconst 0, 1) := by decide +kernel
theorem dX12_image_2 : decode cX12_image 2 = .ok (.putfield 96, 3) := by decide +kernel
theorem dX12_image_5 : decode cX12_image 5 = .ok (.aload_n 0, 1) := by decide +kernel
theorem dX12_image_6 : decode cX12_image 6 = .ok (.iconst 1, 1) := by decide +kernel
theorem dX12_image_7 : decode cX12_image 7 = .ok (.putfield 280, 3) := by decide +kernel
theorem dX12_image_10 : decode cX12_image 10 = .ok (.aload_n 0, 1) := by decide +kernel
theorem dX12_image_11 : decode cX12_image 11 = .ok (.aload_n 0, 1) := by decide +kernel
theorem dX12_image_12 : decode cX12_image 12 = .ok (.getfield 274, 3) := by decide +kernel
theorem dX12_image_15 : decode cX12_image 15 = .ok (.putfield 465, 3) := by decide +kernel
theorem dX12_image_18 : decode cX12_image 18 = .ok (.aload_n 0, 1) := by decide +kernel
theorem dX12_image_19 : decode cX12_image 19 = .ok (.aload_n 0, 1) := by decide +kernel
theorem dX12_image_20 : decode cX12_image 20 = .ok (.getfield 277, 3) := by decide +kernel
theorem dX12_image_23 : decode cX12_image 23 = .ok (.putfield 468, 3) := by decide +kernel
theorem dX12_image_26 : decode cX12_image 26 = .ok (.iconst 0, 1) := by decide +kernel
theorem dX12_image_27 : decode cX12_image 27 = .ok (.istore_n 1, 1) := by decide +kernel
theorem dX12_image_28 : decode cX12_image 28 = .ok (.iload_n 1, 1) := by decide +kernel
theorem dX12_image_29 : decode cX12_image 29 = .ok (.bipush 86, 2) := by decide +kernel
theorem dX12_image_31 : decode cX12_image 31 = .ok (.if_icmp .ge 21, 3) := by decide +kernel
theorem dX12_image_34 : decode cX12_image 34 = .ok (.aload_n 0, 1) := by decide +kernel
theorem dX12_image_35 : decode cX12_image 35 = .ok (.getfield 87, 3) := by decide +kernel
theorem dX12_image_38 : decode cX12_image 38 = .ok (.iload_n 1, 1) := by decide +kernel
theorem dX12_image_39 : decode cX12_image 39 = .ok (.aload_n 0, 1) := by decide +kernel
theorem dX12_image_40 : decode cX12_image 40 = .ok (.getfield 48, 3) := by decide +kernel
theorem dX12_image_43 : decode cX12_image 43 = .ok (.iload_n 1, 1) := by decide +kernel
theorem dX12_image_44 : decode cX12_image 44 = .ok (.iaload, 1) := by decide +kernel
theorem dX12_image_45 : decode cX12_image 45 = .ok (.iastore, 1) := by decide +kernel
theorem dX12_image_46 : decode cX12_image 46 = .ok (.iinc 1 1, 3) := by decide +kernel
theorem dX12_image_49 : decode cX12_image 49 = .ok (.goto (-21), 3) := by decide +kernel
theorem dX12_image_52 : decode cX12_image 52 = .ok (.aload_n 0, 1) := by decide +kernel
theorem dX12_image_53 : decode cX12_image 53 = .ok (.aload_n 0, 1) := by decide +kernel
theorem dX12_image_54 : decode cX12_image 54 = .ok (.getfield 51, 3) := by decide +kernel
theorem dX12_image_57 : decode cX12_image 57 = .ok (.aload_n 0, 1) := by decide +kernel
theorem dX12_image_58 : decode cX12_image 58 = .ok (.getfield 90, 3) := by decide +kernel
theorem dX12_image_61 : decode cX12_image 61 = .ok (.invokevirtual 270, 3) := by decide +kernel
theorem dX12_image_64 : decode cX12_image 64 = .ok (.aload_n 0, 1) := by decide +kernel
theorem dX12_image_65 : decode cX12_image 65 = .ok (.aload_n 0, 1) := by decide +kernel
theorem dX12_image_66 : decode cX12_image 66 = .ok (.getfield 78, 3) := by decide +kernel
theorem dX12_image_69 : decode cX12_image 69 = .ok (.aload_n 0, 1) := by decide +kernel
theorem dX12_image_70 : decode cX12_image 70 = .ok (.getfield 93, 3) := by decide +kernel
theorem dX12_image_73 : decode cX12_image 73 = .ok (.invokevirtual 270, 3) := by decide +kernel
theorem dX12_image_76 : decode cX12_image 76 = .ok (.return_, 1) := by decide +kernel
theorem dX12_restore_0 : decode cX12_restore 0 = .ok (.aload_n 0, 1) := by decide +kernel
theorem dX12_restore_1 : decode cX12_restore 1 = .ok (.iconst 0, 1) := by decide +kernel
theorem dX12_restore_2 : decode cX12_restore 2 = .ok (.putfield 96, 3) := by decide +kernel
theorem dX12_restore_5 : decode cX12_restore 5 = .ok (.aload_n 0, 1) := by decide +kernel
theorem dX12_restore_6 : decode cX12_restore 6 = .ok (.getfield 280, 3) := by decide +kernel
theorem dX12_restore_9 : decode cX12_restore 9 = .ok (.ifCond .ne 5, 3) := by decide +kernel
theorem dX12_restore_12 : decode cX12_restore 12 = .ok (.iconst 0, 1) := by decide +kernel
theorem dX12_restore_13 : decode cX12_restore 13 = .ok (.ireturn, 1) := by decide +kernel
theorem dX12_restore_14 : decode cX12_restore 14 = .ok (.aload_n 0, 1) := by decide +kernel
theorem dX12_restore_15 : decode cX12_restore 15 = .ok (.aload_n 0, 1) := by decide +kernel
theorem dX12_restore_16 : decode cX12_restore 16 = .ok (.getfield 465, 3) := by decide +kernel
theorem dX12_restore_19 : decode cX12_restore 19 = .ok (.putfield 274, 3) := by decide +kernel
theorem dX12_restore_22 : decode cX12_restore 22 = .ok (.aload_n 0, 1) := by decide +kernel
theorem dX12_restore_23 : decode cX12_restore 23 = .ok (.aload_n 0, 1) := by decide +kernel
theorem dX12_restore_24 : decode cX12_restore 24 = .ok (.getfield 468, 3) := by decide +kernel
theorem dX12_restore_27 : decode cX12_restore 27 = .ok (.putfield 277, 3) := by decide +kernel
theorem dX12_restore_30 : decode cX12_restore 30 = .ok (.iconst 0, 1) := by decide +kernel
theorem dX12_restore_31 : decode cX12_restore 31 = .ok (.istore_n 1, 1) := by decide +kernel
theorem dX12_restore_32 : decode cX12_restore 32 = .ok (.iload_n 1, 1) := by decide +kernel
theorem dX12_restore_33 : decode cX12_restore 33 = .ok (.bipush 86, 2) := by decide +kernel
theorem dX12_restore_35 : decode cX12_restore 35 = .ok (.if_icmp .ge 21, 3) := by decide +kernel
theorem dX12_restore_38 : decode cX12_restore 38 = .ok (.aload_n 0, 1) := by decide +kernel
theorem dX12_restore_39 : decode cX12_restore 39 = .ok (.getfield 48, 3) := by decide +kernel
theorem dX12_restore_42 : decode cX12_restore 42 = .ok (.iload_n 1, 1) := by decide +kernel
theorem dX12_restore_43 : decode cX12_restore 43 = .ok (.aload_n 0, 1) := by decide +kernel
theorem dX12_restore_44 : decode cX12_restore 44 = .ok (.getfield 87, 3) := by decide +kernel
theorem dX12_restore_47 : decode cX12_restore 47 = .ok (.iload_n 1, 1) := by decide +kernel
theorem dX12_restore_48 : decode cX12_restore 48 = .ok (.iaload, 1) := by decide +kernel
theorem dX12_restore_49 : decode cX12_restore 49 = .ok (.iastore, 1) := by decide +kernel
theorem dX12_restore_50 : decode cX12_restore 50 = .ok (.iinc 1 1, 3) := by decide +kernel
theorem dX12_restore_53 : decode cX12_restore 53 = .ok (.goto (-21), 3) := by decide +kernel
theorem dX12_restore_56 : decode cX12_restore 56 = .ok (.aload_n 0, 1) := by decide +kernel
theorem dX12_restore_57 : decode cX12_restore 57 = .ok (.aload_n 0, 1) := by decide +kernel
theorem dX12_restore_58 : decode cX12_restore 58 = .ok (.getfield 90, 3) := by decide +kernel
theorem dX12_restore_61 : decode cX12_restore 61 = .ok (.aload_n 0, 1) := by decide +kernel
theorem dX12_restore_62 : decode cX12_restore 62 = .ok (.getfield 51, 3) := by decide +kernel
theorem dX12_restore_65 : decode cX12_restore 65 = .ok (.invokevirtual 270, 3) := by decide +kernel
theorem dX12_restore_68 : decode cX12_restore 68 = .ok (.aload_n 0, 1) := by decide +kernel
theorem dX12_restore_69 : decode cX12_restore 69 = .ok (.aload_n 0, 1) := by decide +kernel
theorem dX12_restore_70 : decode cX12_restore 70 = .ok (.getfield 93, 3) := by decide +kernel
theorem dX12_restore_73 : decode cX12_restore 73 = .ok (.aload_n 0, 1) := by decide +kernel
theorem dX12_restore_74 : decode cX12_restore 74 = .ok (.getfield 78, 3) := by decide +kernel
theorem dX12_restore_77 : decode cX12_restore 77 = .ok (.invokevirtual 270, 3) := by decide +kernel
theorem dX12_restore_80 : decode cX12_restore 80 = .ok (.iconst 1, 1) := by decide +kernel
theorem dX12_restore_81 : decode cX12_restore 81 = .ok (.ireturn, 1) := by decide +kernel
theorem dJ11_isValidCodePoint_9a6ad_0 : decode cJ11_isValidCodePoint_9a6ad 0 = .ok (.iload_n 0, 1) := by decide +kernel
theorem dJ11_isValidCodePoint_9a6ad_1 : decode cJ11_isValidCodePoint_9a6ad 1 = .ok (.bipush 16, 2) := by decide +kernel
theorem dJ11_isValidCodePoint_9a6ad_3 : decode cJ11_isValidCodePoint_9a6ad 3 = .ok (.iushr, 1) := by decide +kernel
theorem dJ11_isValidCodePoint_9a6ad_4 : decode cJ11_isValidCodePoint_9a6ad 4 = .ok (.istore_n 1, 1) := by decide +kernel
theorem dJ11_isValidCodePoint_9a6ad_5 : decode cJ11_isValidCodePoint_9a6ad 5 = .ok (.iload_n 1, 1) := by decide +kernel
theorem dJ11_isValidCodePoint_9a6ad_6 : decode cJ11_isValidCodePoint_9a6ad 6 = .ok (.bipush 17, 2) := by decide +kernel
theorem dJ11_isValidCodePoint_9a6ad_8 : decode cJ11_isValidCodePoint_9a6ad 8 = .ok (.if_icmp .ge 7, 3) := by decide +kernel
theorem dJ11_isValidCodePoint_9a6ad_11 : decode cJ11_isValidCodePoint_9a6ad 11 = .ok (.iconst 1, 1) := by decide +kernel
theorem dJ11_isValidCodePoint_9a6ad_12 : decode cJ11_isValidCodePoint_9a6ad 12 = .ok (.goto 4, 3) := by decide +kernel
theorem dJ11_isValidCodePoint_9a6ad_15 : decode cJ11_isValidCodePoint_9a6ad 15 = .ok (.iconst 0, 1) := by decide +kernel
theorem dJ11_isValidCodePoint_9a6ad_16 : decode cJ11_isValidCodePoint_9a6ad 16 = .ok (.ireturn, 1) := by decide +kernel
theorem dJ11_highSurrogate_5068e_0 : decode cJ11_highSurrogate_5068e 0 = .ok (.iload_n 0, 1) := by decide +kernel
theorem dJ11_highSurrogate_5068e_1 : decode cJ11_highSurrogate_5068e 1 = .ok (.bipush 10, 2) := by decide +kernel
theorem dJ11_highSurrogate_5068e_3 : decode cJ11_highSurrogate_5068e 3 = .ok (.iushr, 1) := by decide +kernel
theorem dJ11_highSurrogate_5068e_4 : decode cJ11_highSurrogate_5068e 4 = .ok (.ldc 110, 2) := by decide +kernel
theorem dJ11_highSurrogate_5068e_6 : decode cJ11_highSurrogate_5068e 6 = .ok (.iadd, 1) := by decide +kernel
theorem dJ11_highSurrogate_5068e_7 : decode cJ11_highSurrogate_5068e 7 = .ok (.i2c, 1) := by decide +kernel
theorem dJ11_highSurrogate_5068e_8 : decode cJ11_highSurrogate_5068e 8 = .ok (.ireturn, 1) := by decide +kernel
theorem dJ11_lowSurrogate_5068e_0 : decode cJ11_lowSurrogate_5068e 0 = .ok (.iload_n 0, 1) := by decide +kernel
theorem dJ11_lowSurrogate_5068e_1 : decode cJ11_lowSurrogate_5068e 1 = .ok (.sipush 1023, 3) := by decide +kernel
theorem dJ11_lowSurrogate_5068e_4 : decode cJ11_lowSurrogate_5068e 4 = .ok (.iand, 1) := by decide +kernel
theorem dJ11_lowSurrogate_5068e_5 : decode cJ11_lowSurrogate_5068e 5 = .ok (.ldc 76, 2) := by decide +kernel
theorem dJ11_lowSurrogate_5068e_7 : decode cJ11_lowSurrogate_5068e 7 = .ok (.iadd, 1) := by decide +kernel
theorem dJ11_lowSurrogate_5068e_8 : decode cJ11_lowSurrogate_5068e 8 = .ok (.i2c, 1) := by decide +kernel
theorem dJ11_lowSurrogate_5068e_9 : decode cJ11_lowSurrogate_5068e 9 = .ok (.ireturn, 1) := by decide +kernel
theorem dJ6_bitCount_0f7a4_0 : decode cJ6_bitCount_0f7a4 0 = .ok (.iload_n 0, 1) := by decide +kernel
theorem dJ6_bitCount_0f7a4_1 : decode cJ6_bitCount_0f7a4 1 = .ok (.iload_n 0, 1) := by decide +kernel
theorem dJ6_bitCount_0f7a4_2 : decode cJ6_bitCount_0f7a4 2 = .ok (.iconst 1, 1) := by decide +kernel
theorem dJ6_bitCount_0f7a4_3 : decode cJ6_bitCount_0f7a4 3 = .ok (.iushr, 1) := by decide +kernel
theorem dJ6_bitCount_0f7a4_4 : decode cJ6_bitCount_0f7a4 4 = .ok (.ldc_w 265, 3) := by decide +kernel
theorem dJ6_bitCount_0f7a4_7 : decode cJ6_bitCount_0f7a4 7 = .ok (.iand, 1) := by decide +kernel
theorem dJ6_bitCount_0f7a4_8 : decode cJ6_bitCount_0f7a4 8 = .ok (.isub, 1) := by decide +kernel
theorem dJ6_bitCount_0f7a4_9 : decode cJ6_bitCount_0f7a4 9 = .ok (.istore_n 0, 1) := by decide +kernel
theorem dJ6_bitCount_0f7a4_10 : decode cJ6_bitCount_0f7a4 10 = .ok (.iload_n 0, 1) := by decide +kernel
theorem dJ6_bitCount_0f7a4_11 : decode cJ6_bitCount_0f7a4 11 = .ok (.ldc_w 266, 3) := by decide +kernel
theorem dJ6_bitCount_0f7a4_14 : decode cJ6_bitCount_0f7a4 14 = .ok (.iand, 1) := by decide +kernel
theorem dJ6_bitCount_0f7a4_15 : decode cJ6_bitCount_0f7a4 15 = .ok (.iload_n 0, 1) := by decide +kernel
theorem dJ6_bitCount_0f7a4_16 : decode cJ6_bitCount_0f7a4 16 = .ok (.iconst 2, 1) := by decide +kernel
theorem dJ6_bitCount_0f7a4_17 : decode cJ6_bitCount_0f7a4 17 = .ok (.iushr, 1) := by decide +kernel
theorem dJ6_bitCount_0f7a4_18 : decode cJ6_bitCount_0f7a4 18 = .ok (.ldc_w 266, 3) := by decide +kernel
theorem dJ6_bitCount_0f7a4_21 : decode cJ6_bitCount_0f7a4 21 = .ok (.iand, 1) := by decide +kernel
theorem dJ6_bitCount_0f7a4_22 : decode cJ6_bitCount_0f7a4 22 = .ok (.iadd, 1) := by decide +kernel
theorem dJ6_bitCount_0f7a4_23 : decode cJ6_bitCount_0f7a4 23 = .ok (.istore_n 0, 1) := by decide +kernel
theorem dJ6_bitCount_0f7a4_24 : decode cJ6_bitCount_0f7a4 24 = .ok (.iload_n 0, 1) := by decide +kernel
theorem dJ6_bitCount_0f7a4_25 : decode cJ6_bitCount_0f7a4 25 = .ok (.iload_n 0, 1) := by decide +kernel
theorem dJ6_bitCount_0f7a4_26 : decode cJ6_bitCount_0f7a4 26 = .ok (.iconst 4, 1) := by decide +kernel
theorem dJ6_bitCount_0f7a4_27 : decode cJ6_bitCount_0f7a4 27 = .ok (.iushr, 1) := by decide +kernel
theorem dJ6_bitCount_0f7a4_28 : decode cJ6_bitCount_0f7a4 28 = .ok (.iadd, 1) := by decide +kernel
theorem dJ6_bitCount_0f7a4_29 : decode cJ6_bitCount_0f7a4 29 = .ok (.ldc_w 267, 3) := by decide +kernel
theorem dJ6_bitCount_0f7a4_32 : decode cJ6_bitCount_0f7a4 32 = .ok (.iand, 1) := by decide +kernel
theorem dJ6_bitCount_0f7a4_33 : decode cJ6_bitCount_0f7a4 33 = .ok (.istore_n 0, 1) := by decide +kernel
theorem dJ6_bitCount_0f7a4_34 : decode cJ6_bitCount_0f7a4 34 = .ok (.iload_n 0, 1) := by decide +kernel
theorem dJ6_bitCount_0f7a4_35 : decode cJ6_bitCount_0f7a4 35 = .ok (.iload_n 0, 1) := by decide +kernel
theorem dJ6_bitCount_0f7a4_36 : decode cJ6_bitCount_0f7a4 36 = .ok (.bipush 8, 2) := by decide +kernel
theorem dJ6_bitCount_0f7a4_38 : decode cJ6_bitCount_0f7a4 38 = .ok (.iushr, 1) := by decide +kernel
theorem dJ6_bitCount_0f7a4_39 : decode cJ6_bitCount_0f7a4 39 = .ok (.iadd, 1) := by decide +kernel
theorem dJ6_bitCount_0f7a4_40 : decode cJ6_bitCount_0f7a4 40 = .ok (.istore_n 0, 1) := by decide +kernel
theorem dJ6_bitCount_0f7a4_41 : decode cJ6_bitCount_0f7a4 41 = .ok (.iload_n 0, 1) := by decide +kernel
theorem dJ6_bitCount_0f7a4_42 : decode cJ6_bitCount_0f7a4 42 = .ok (.iload_n 0, 1) := by decide +kernel
theorem dJ6_bitCount_0f7a4_43 : decode cJ6_bitCount_0f7a4 43 = .ok (.bipush 16, 2) := by decide +kernel
theorem dJ6_bitCount_0f7a4_45 : decode cJ6_bitCount_0f7a4 45 = .ok (.iushr, 1) := by decide +kernel
theorem dJ6_bitCount_0f7a4_46 : decode cJ6_bitCount_0f7a4 46 = .ok (.iadd, 1) := by decide +kernel
theorem dJ6_bitCount_0f7a4_47 : decode cJ6_bitCount_0f7a4 47 = .ok (.istore_n 0, 1) := by decide +kernel
theorem dJ6_bitCount_0f7a4_48 : decode cJ6_bitCount_0f7a4 48 = .ok (.iload_n 0, 1) := by decide +kernel
theorem dJ6_bitCount_0f7a4_49 : decode cJ6_bitCount_0f7a4 49 = .ok (.bipush 63, 2) := by decide +kernel
theorem dJ6_bitCount_0f7a4_51 : decode cJ6_bitCount_0f7a4 51 = .ok (.iand, 1) := by decide +kernel
theorem dJ6_bitCount_0f7a4_52 : decode cJ6_bitCount_0f7a4 52 = .ok (.ireturn, 1) := by decide +kernel
theorem dJ9_abs_0f7a4_0 : decode cJ9_abs_0f7a4 0 = .ok (.iload_n 0, 1) := by decide +kernel
theorem dJ9_abs_0f7a4_1 : decode cJ9_abs_0f7a4 1 = .ok (.ifCond .ge 8, 3) := by decide +kernel
theorem dJ9_abs_0f7a4_4 : decode cJ9_abs_0f7a4 4 = .ok (.iload_n 0, 1) := by decide +kernel
theorem dJ9_abs_0f7a4_5 : decode cJ9_abs_0f7a4 5 = .ok (.ineg, 1) := by decide +kernel
theorem dJ9_abs_0f7a4_6 : decode cJ9_abs_0f7a4 6 = .ok (.goto 4, 3) := by decide +kernel
theorem dJ9_abs_0f7a4_9 : decode cJ9_abs_0f7a4 9 = .ok (.iload_n 0, 1) := by decide +kernel
theorem dJ9_abs_0f7a4_10 : decode cJ9_abs_0f7a4 10 = .ok (.ireturn, 1) := by decide +kernel
theorem dJ9_max_7cf53_0 : decode cJ9_max_7cf53 0 = .ok (.iload_n 0, 1) := by decide +kernel
theorem dJ9_max_7cf53_1 : decode cJ9_max_7cf53 1 = .ok (.iload_n 1, 1) := by decide +kernel
theorem dJ9_max_7cf53_2 : decode cJ9_max_7cf53 2 = .ok (.if_icmp .lt 7, 3) := by decide +kernel
theorem dJ9_max_7cf53_5 : decode cJ9_max_7cf53 5 = .ok (.iload_n 0, 1) := by decide +kernel
theorem dJ9_max_7cf53_6 : decode cJ9_max_7cf53 6 = .ok (.goto 4, 3) := by decide +kernel
theorem dJ9_max_7cf53_9 : decode cJ9_max_7cf53 9 = .ok (.iload_n 1, 1) := by decide +kernel
theorem dJ9_max_7cf53_10 : decode cJ9_max_7cf53 10 = .ok (.ireturn, 1) := by decide +kernel
theorem dJ9_min_7cf53_0 : decode cJ9_min_7cf53 0 = .ok (.iload_n 0, 1) := by decide +kernel
theorem dJ9_min_7cf53_1 : decode cJ9_min_7cf53 1 = .ok (.iload_n 1, 1) := by decide +kernel
theorem dJ9_min_7cf53_2 : decode cJ9_min_7cf53 2 = .ok (.if_icmp .gt 7, 3) := by decide +kernel
theorem dJ9_min_7cf53_5 : decode cJ9_min_7cf53 5 = .ok (.iload_n 0, 1) := by decide +kernel
theorem dJ9_min_7cf53_6 : decode cJ9_min_7cf53 6 = .ok (.goto 4, 3) := by decide +kernel
theorem dJ9_min_7cf53_9 : decode cJ9_min_7cf53 9 = .ok (.iload_n 1, 1) := by decide +kernel
theorem dJ9_min_7cf53_10 : decode cJ9_min_7cf53 10 = .ok (.ireturn, 1) := by decide +kernel
theorem dJ0_length_8abf5_0 : decode cJ0_length_8abf5 0 = .ok (.aload_n 0, 1) := by decide +kernel
theorem dJ0_length_8abf5_1 : decode cJ0_length_8abf5 1 = .ok (.getfield 9, 3) := by decide +kernel
theorem dJ0_length_8abf5_4 : decode cJ0_length_8abf5 4 = .ok (.arraylength, 1) := by decide +kernel
theorem dJ0_length_8abf5_5 : decode cJ0_length_8abf5 5 = .ok (.aload_n 0, 1) := by decide +kernel
theorem dJ0_length_8abf5_6 : decode cJ0_length_8abf5 6 = .ok (.invokevirtual 335, 3) := by decide +kernel
theorem dJ0_length_8abf5_9 : decode cJ0_length_8abf5 9 = .ok (.ishr, 1) := by decide +kernel
theorem dJ0_length_8abf5_10 : decode cJ0_length_8abf5 10 = .ok (.ireturn, 1) := by decide +kernel
theorem dJ0_charAt_5068e_0 : decode cJ0_charAt_5068e 0 = .ok (.aload_n 0, 1) := by decide +kernel
theorem dJ0_charAt_5068e_1 : decode cJ0_charAt_5068e 1 = .ok (.invokevirtual 492, 3) := by decide +kernel
theorem dJ0_charAt_5068e_4 : decode cJ0_charAt_5068e 4 = .ok (.ifCond .eq 12, 3) := by decide +kernel
theorem dJ0_charAt_5068e_7 : decode cJ0_charAt_5068e 7 = .ok (.aload_n 0, 1) := by decide +kernel
theorem dJ0_charAt_5068e_8 : decode cJ0_charAt_5068e 8 = .ok (.getfield 9, 3) := by decide +kernel
theorem dJ0_charAt_5068e_11 : decode cJ0_charAt_5068e 11 = .ok (.iload_n 1, 1) := by decide +kernel
theorem dJ0_charAt_5068e_12 : decode cJ0_charAt_5068e 12 = .ok (.invokestatic 495, 3) := by decide +kernel
theorem dJ0_charAt_5068e_15 : decode cJ0_charAt_5068e 15 = .ok (.ireturn, 1) := by decide +kernel
theorem dJ0_charAt_5068e_16 : decode cJ0_charAt_5068e 16 = .ok (.aload_n 0, 1) := by decide +kernel
theorem dJ0_charAt_5068e_17 : decode cJ0_charAt_5068e 17 = .ok (.getfield 9, 3) := by decide +kernel
theorem dJ0_charAt_5068e_20 : decode cJ0_charAt_5068e 20 = .ok (.iload_n 1, 1) := by decide +kernel
theorem dJ0_charAt_5068e_21 : decode cJ0_charAt_5068e 21 = .ok (.invokestatic 498, 3) := by decide +kernel
theorem dJ0_charAt_5068e_24 : decode cJ0_charAt_5068e 24 = .ok (.ireturn, 1) := by decide +kernel
theorem dJ0_indexOf_0f7a4_0 : decode cJ0_indexOf_0f7a4 0 = .ok (.aload_n 0, 1) := by decide +kernel
theorem dJ0_indexOf_0f7a4_1 : decode cJ0_indexOf_0f7a4 1 = .ok (.iload_n 1, 1) := by decide +kernel
theorem dJ0_indexOf_0f7a4_2 : decode cJ0_indexOf_0f7a4 2 = .ok (.iconst 0, 1) := by decide +kernel
theorem dJ0_indexOf_0f7a4_3 : decode cJ0_indexOf_0f7a4 3 = .ok (.invokevirtual 633, 3) := by decide +kernel
theorem dJ0_indexOf_0f7a4_6 : decode cJ0_indexOf_0f7a4 6 = .ok (.ireturn, 1) := by decide +kernel
theorem dJ0_indexOf_7cf53_0 : decode cJ0_indexOf_7cf53 0 = .ok (.aload_n 0, 1) := by decide +kernel
theorem dJ0_indexOf_7cf53_1 : decode cJ0_indexOf_7cf53 1 = .ok (.invokevirtual 492, 3) := by decide +kernel
theorem dJ0_indexOf_7cf53_4 : decode cJ0_indexOf_7cf53 4 = .ok (.ifCond .eq 19, 3) := by decide +kernel
theorem dJ0_indexOf_7cf53_7 : decode cJ0_indexOf_7cf53 7 = .ok (.aload_n 0, 1) := by decide +kernel
theorem dJ0_indexOf_7cf53_8 : decode cJ0_indexOf_7cf53 8 = .ok (.getfield 9, 3) := by decide +kernel
theorem dJ0_indexOf_7cf53_11 : decode cJ0_indexOf_7cf53 11 = .ok (.iload_n 1, 1) := by decide +kernel
theorem dJ0_indexOf_7cf53_12 : decode cJ0_indexOf_7cf53 12 = .ok (.iload_n 2, 1) := by decide +kernel
theorem dJ0_indexOf_7cf53_13 : decode cJ0_indexOf_7cf53 13 = .ok (.aload_n 0, 1) := by decide +kernel
theorem dJ0_indexOf_7cf53_14 : decode cJ0_indexOf_7cf53 14 = .ok (.invokevirtual 505, 3) := by decide +kernel
theorem dJ0_indexOf_7cf53_17 : decode cJ0_indexOf_7cf53 17 = .ok (.invokestatic 637, 3) := by decide +kernel
theorem dJ0_indexOf_7cf53_20 : decode cJ0_indexOf_7cf53 20 = .ok (.goto 16, 3) := by decide +kernel
theorem dJ0_indexOf_7cf53_23 : decode cJ0_indexOf_7cf53 23 = .ok (.aload_n 0, 1) := by decide +kernel
theorem dJ0_indexOf_7cf53_24 : decode cJ0_indexOf_7cf53 24 = .ok (.getfield 9, 3) := by decide +kernel
theorem dJ0_indexOf_7cf53_27 : decode cJ0_indexOf_7cf53 27 = .ok (.iload_n 1, 1) := by decide +kernel
theorem dJ0_indexOf_7cf53_28 : decode cJ0_indexOf_7cf53 28 = .ok (.iload_n 2, 1) := by decide +kernel
theorem dJ0_indexOf_7cf53_29 : decode cJ0_indexOf_7cf53 29 = .ok (.aload_n 0, 1) := by decide +kernel
theorem dJ0_indexOf_7cf53_30 : decode cJ0_indexOf_7cf53 30 = .ok (.invokevirtual 505, 3) := by decide +kernel
theorem dJ0_indexOf_7cf53_33 : decode cJ0_indexOf_7cf53 33 = .ok (.invokestatic 640, 3) := by decide +kernel
theorem dJ0_indexOf_7cf53_36 : decode cJ0_indexOf_7cf53 36 = .ok (.ireturn, 1) := by decide +kernel
theorem dJ0_coder_7d493_0 : decode cJ0_coder_7d493 0 = .ok (.getstatic 38, 3) := by decide +kernel
theorem dJ0_coder_7d493_3 : decode cJ0_coder_7d493 3 = .ok (.ifCond .eq 10, 3) := by decide +kernel
theorem dJ0_coder_7d493_6 : decode cJ0_coder_7d493 6 = .ok (.aload_n 0, 1) := by decide +kernel
theorem dJ0_coder_7d493_7 : decode cJ0_coder_7d493 7 = .ok (.getfield 15, 3) := by decide +kernel
theorem dJ0_coder_7d493_10 : decode cJ0_coder_7d493 10 = .ok (.goto 4, 3) := by decide +kernel
theorem dJ0_coder_7d493_13 : decode cJ0_coder_7d493 13 = .ok (.iconst 1, 1) := by decide +kernel
theorem dJ0_coder_7d493_14 : decode cJ0_coder_7d493 14 = .ok (.ireturn, 1) := by decide +kernel
theorem dJ0_isLatin1_aae02_0 : decode cJ0_isLatin1_aae02 0 = .ok (.getstatic 38, 3) := by decide +kernel
theorem dJ0_isLatin1_aae02_3 : decode cJ0_isLatin1_aae02 3 = .ok (.ifCond .eq 14, 3) := by decide +kernel
theorem dJ0_isLatin1_aae02_6 : decode cJ0_isLatin1_aae02 6 = .ok (.aload_n 0, 1) := by decide +kernel
theorem dJ0_isLatin1_aae02_7 : decode cJ0_isLatin1_aae02 7 = .ok (.getfield 15, 3) := by decide +kernel
theorem dJ0_isLatin1_aae02_10 : decode cJ0_isLatin1_aae02 10 = .ok (.ifCond .ne 7, 3) := by decide +kernel
theorem dJ0_isLatin1_aae02_13 : decode cJ0_isLatin1_aae02 13 = .ok (.iconst 1, 1) := by decide +kernel
theorem dJ0_isLatin1_aae02_14 : decode cJ0_isLatin1_aae02 14 = .ok (.goto 4, 3) := by decide +kernel
theorem dJ0_isLatin1_aae02_17 : decode cJ0_isLatin1_aae02 17 = .ok (.iconst 0, 1) := by decide +kernel
theorem dJ0_isLatin1_aae02_18 : decode cJ0_isLatin1_aae02 18 = .ok (.ireturn, 1) := by decide +kernel
theorem dJ0_checkIndex_df160_0 : decode cJ0_checkIndex_df160 0 = .ok (.iload_n 0, 1) := by decide +kernel
theorem dJ0_checkIndex_df160_1 : decode cJ0_checkIndex_df160 1 = .ok (.iload_n 1, 1) := by decide +kernel
theorem dJ0_checkIndex_df160_2 : decode cJ0_checkIndex_df160 2 = .ok (.getstatic 1053, 3) := by decide +kernel
theorem dJ0_checkIndex_df160_5 : decode cJ0_checkIndex_df160 5 = .ok (.invokestatic 1059, 3) := by decide +kernel
theorem dJ0_checkIndex_df160_8 : decode cJ0_checkIndex_df160 8 = .ok (.pop, 1) := by decide +kernel
theorem dJ0_checkIndex_df160_9 : decode cJ0_checkIndex_df160 9 = .ok (.return_, 1) := by decide +kernel
theorem dJ0_checkBoundsBeginEnd_23922_0 : decode cJ0_checkBoundsBeginEnd_23922 0 = .ok (.iload_n 0, 1) := by decide +kernel
theorem dJ0_checkBoundsBeginEnd_23922_1 : decode cJ0_checkBoundsBeginEnd_23922 1 = .ok (.iload_n 1, 1) := by decide +kernel
theorem dJ0_checkBoundsBeginEnd_23922_2 : decode cJ0_checkBoundsBeginEnd_23922 2 = .ok (.iload_n 2, 1) := by decide +kernel
theorem dJ0_checkBoundsBeginEnd_23922_3 : decode cJ0_checkBoundsBeginEnd_23922 3 = .ok (.getstatic 1053, 3) := by decide +kernel
theorem dJ0_checkBoundsBeginEnd_23922_6 : decode cJ0_checkBoundsBeginEnd_23922 6 = .ok (.invokestatic 1062, 3) := by decide +kernel
theorem dJ0_checkBoundsBeginEnd_23922_9 : decode cJ0_checkBoundsBeginEnd_23922 9 = .ok (.pop, 1) := by decide +kernel
theorem dJ0_checkBoundsBeginEnd_23922_10 : decode cJ0_checkBoundsBeginEnd_23922 10 = .ok (.return_, 1) := by decide +kernel
theorem dJ1_charAt_3b067_0 : decode cJ1_charAt_3b067 0 = .ok (.iload_n 1, 1) := by decide +kernel
theorem dJ1_charAt_3b067_1 : decode cJ1_charAt_3b067 1 = .ok (.aload_n 0, 1) := by decide +kernel
theorem dJ1_charAt_3b067_2 : decode cJ1_charAt_3b067 2 = .ok (.arraylength, 1) := by decide +kernel
theorem dJ1_charAt_3b067_3 : decode cJ1_charAt_3b067 3 = .ok (.invokestatic 9, 3) := by decide +kernel
theorem dJ1_charAt_3b067_6 : decode cJ1_charAt_3b067 6 = .ok (.aload_n 0, 1) := by decide +kernel
theorem dJ1_charAt_3b067_7 : decode cJ1_charAt_3b067 7 = .ok (.iload_n 1, 1) := by decide +kernel
theorem dJ1_charAt_3b067_8 : decode cJ1_charAt_3b067 8 = .ok (.baload, 1) := by decide +kernel
theorem dJ1_charAt_3b067_9 : decode cJ1_charAt_3b067 9 = .ok (.sipush 255, 3) := by decide +kernel
theorem dJ1_charAt_3b067_12 : decode cJ1_charAt_3b067 12 = .ok (.iand, 1) := by decide +kernel
theorem dJ1_charAt_3b067_13 : decode cJ1_charAt_3b067 13 = .ok (.i2c, 1) := by decide +kernel
theorem dJ1_charAt_3b067_14 : decode cJ1_charAt_3b067 14 = .ok (.ireturn, 1) := by decide +kernel
theorem dJ1_canEncode_9a6ad_0 : decode cJ1_canEncode_9a6ad 0 = .ok (.iload_n 0, 1) := by decide +kernel
theorem dJ1_canEncode_9a6ad_1 : decode cJ1_canEncode_9a6ad 1 = .ok (.ifCond .lt 14, 3) := by decide +kernel
theorem dJ1_canEncode_9a6ad_4 : decode cJ1_canEncode_9a6ad 4 = .ok (.iload_n 0, 1) := by decide +kernel
theorem dJ1_canEncode_9a6ad_5 : decode cJ1_canEncode_9a6ad 5 = .ok (.sipush 255, 3) := by decide +kernel
theorem dJ1_canEncode_9a6ad_8 : decode cJ1_canEncode_9a6ad 8 = .ok (.if_icmp .gt 7, 3) := by decide +kernel
theorem dJ1_canEncode_9a6ad_11 : decode cJ1_canEncode_9a6ad 11 = .ok (.iconst 1, 1) := by decide +kernel
theorem dJ1_canEncode_9a6ad_12 : decode cJ1_canEncode_9a6ad 12 = .ok (.goto 4, 3) := by decide +kernel
theorem dJ1_canEncode_9a6ad_15 : decode cJ1_canEncode_9a6ad 15 = .ok (.iconst 0, 1) := by decide +kernel
theorem dJ1_canEncode_9a6ad_16 : decode cJ1_canEncode_9a6ad 16 = .ok (.ireturn, 1) := by decide +kernel
theorem dJ1_indexOf_4cfef_0 : decode cJ1_indexOf_4cfef 0 = .ok (.iload_n 1, 1) := by decide +kernel
theorem dJ1_indexOf_4cfef_1 : decode cJ1_indexOf_4cfef 1 = .ok (.invokestatic 88, 3) := by decide +kernel
theorem dJ1_indexOf_4cfef_4 : decode cJ1_indexOf_4cfef 4 = .ok (.ifCond .ne 5, 3) := by decide +kernel
theorem dJ1_indexOf_4cfef_7 : decode cJ1_indexOf_4cfef 7 = .ok (.iconst (-1), 1) := by decide +kernel
theorem dJ1_indexOf_4cfef_8 : decode cJ1_indexOf_4cfef 8 = .ok (.ireturn, 1) := by decide +kernel
theorem dJ1_indexOf_4cfef_9 : decode cJ1_indexOf_4cfef 9 = .ok (.iload_n 2, 1) := by decide +kernel
theorem dJ1_indexOf_4cfef_10 : decode cJ1_indexOf_4cfef 10 = .ok (.iconst 0, 1) := by decide +kernel
theorem dJ1_indexOf_4cfef_11 : decode cJ1_indexOf_4cfef 11 = .ok (.invokestatic 92, 3) := by decide +kernel
theorem dJ1_indexOf_4cfef_14 : decode cJ1_indexOf_4cfef 14 = .ok (.istore_n 2, 1) := by decide +kernel
theorem dJ1_indexOf_4cfef_15 : decode cJ1_indexOf_4cfef 15 = .ok (.iload_n 3, 1) := by decide +kernel
theorem dJ1_indexOf_4cfef_16 : decode cJ1_indexOf_4cfef 16 = .ok (.aload_n 0, 1) := by decide +kernel
theorem dJ1_indexOf_4cfef_17 : decode cJ1_indexOf_4cfef 17 = .ok (.arraylength, 1) := by decide +kernel
theorem dJ1_indexOf_4cfef_18 : decode cJ1_indexOf_4cfef 18 = .ok (.invokestatic 38, 3) := by decide +kernel
theorem dJ1_indexOf_4cfef_21 : decode cJ1_indexOf_4cfef 21 = .ok (.istore_n 3, 1) := by decide +kernel
theorem dJ1_indexOf_4cfef_22 : decode cJ1_indexOf_4cfef 22 = .ok (.iload_n 2, 1) := by decide +kernel
theorem dJ1_indexOf_4cfef_23 : decode cJ1_indexOf_4cfef 23 = .ok (.iload_n 3, 1) := by decide +kernel
theorem dJ1_indexOf_4cfef_24 : decode cJ1_indexOf_4cfef 24 = .ok (.if_icmp .lt 5, 3) := by decide +kernel
theorem dJ1_indexOf_4cfef_27 : decode cJ1_indexOf_4cfef 27 = .ok (.iconst (-1), 1) := by decide +kernel
theorem dJ1_indexOf_4cfef_28 : decode cJ1_indexOf_4cfef 28 = .ok (.ireturn, 1) := by decide +kernel
theorem dJ1_indexOf_4cfef_29 : decode cJ1_indexOf_4cfef 29 = .ok (.aload_n 0, 1) := by decide +kernel
theorem dJ1_indexOf_4cfef_30 : decode cJ1_indexOf_4cfef 30 = .ok (.iload_n 1, 1) := by decide +kernel
theorem dJ1_indexOf_4cfef_31 : decode cJ1_indexOf_4cfef 31 = .ok (.iload_n 2, 1) := by decide +kernel
theorem dJ1_indexOf_4cfef_32 : decode cJ1_indexOf_4cfef 32 = .ok (.iload_n 3, 1) := by decide +kernel
theorem dJ1_indexOf_4cfef_33 : decode cJ1_indexOf_4cfef 33 = .ok (.invokestatic 95, 3) := by decide +kernel
theorem dJ1_indexOf_4cfef_36 : decode cJ1_indexOf_4cfef 36 = .ok (.ireturn, 1) := by decide +kernel
theorem dJ1_indexOfChar_4cfef_0 : decode cJ1_indexOfChar_4cfef 0 = .ok (.iload_n 1, 1) := by decide +kernel
theorem dJ1_indexOfChar_4cfef_1 : decode cJ1_indexOfChar_4cfef 1 = .ok (.i2b, 1) := by decide +kernel
theorem dJ1_indexOfChar_4cfef_2 : decode cJ1_indexOfChar_4cfef 2 = .ok (.istore 4, 2) := by decide +kernel
theorem dJ1_indexOfChar_4cfef_4 : decode cJ1_indexOfChar_4cfef 4 = .ok (.iload_n 2, 1) := by decide +kernel
theorem dJ1_indexOfChar_4cfef_5 : decode cJ1_indexOfChar_4cfef 5 = .ok (.istore 5, 2) := by decide +kernel
theorem dJ1_indexOfChar_4cfef_7 : decode cJ1_indexOfChar_4cfef 7 = .ok (.iload 5, 2) := by decide +kernel
theorem dJ1_indexOfChar_4cfef_9 : decode cJ1_indexOfChar_4cfef 9 = .ok (.iload_n 3, 1) := by decide +kernel
theorem dJ1_indexOfChar_4cfef_10 : decode cJ1_indexOfChar_4cfef 10 = .ok (.if_icmp .ge 21, 3) := by decide +kernel
theorem dJ1_indexOfChar_4cfef_13 : decode cJ1_indexOfChar_4cfef 13 = .ok (.aload_n 0, 1) := by decide +kernel
theorem dJ1_indexOfChar_4cfef_14 : decode cJ1_indexOfChar_4cfef 14 = .ok (.iload 5, 2) := by decide +kernel
theorem dJ1_indexOfChar_4cfef_16 : decode cJ1_indexOfChar_4cfef 16 = .ok (.baload, 1) := by decide +kernel
theorem dJ1_indexOfChar_4cfef_17 : decode cJ1_indexOfChar_4cfef 17 = .ok (.iload 4, 2) := by decide +kernel
theorem dJ1_indexOfChar_4cfef_19 : decode cJ1_indexOfChar_4cfef 19 = .ok (.if_icmp .ne 6, 3) := by decide +kernel
theorem dJ1_indexOfChar_4cfef_22 : decode cJ1_indexOfChar_4cfef 22 = .ok (.iload 5, 2) := by decide +kernel
theorem dJ1_indexOfChar_4cfef_24 : decode cJ1_indexOfChar_4cfef 24 = .ok (.ireturn, 1) := by decide +kernel
theorem dJ1_indexOfChar_4cfef_25 : decode cJ1_indexOfChar_4cfef 25 = .ok (.iinc 5 1, 3) := by decide +kernel
theorem dJ1_indexOfChar_4cfef_28 : decode cJ1_indexOfChar_4cfef 28 = .ok (.goto (-21), 3) := by decide +kernel
theorem dJ1_indexOfChar_4cfef_31 : decode cJ1_indexOfChar_4cfef 31 = .ok (.iconst (-1), 1) := by decide +kernel
theorem dJ1_indexOfChar_4cfef_32 : decode cJ1_indexOfChar_4cfef 32 = .ok (.ireturn, 1) := by decide +kernel
theorem dJ2_getChar_3b067_0 : decode cJ2_getChar_3b067 0 = .ok (.getstatic 44, 3) := by decide +kernel
theorem dJ2_getChar_3b067_3 : decode cJ2_getChar_3b067 3 = .ok (.ifCond .ne 25, 3) := by decide +kernel
theorem dJ2_getChar_3b067_6 : decode cJ2_getChar_3b067 6 = .ok (.iload_n 1, 1) := by decide +kernel
theorem dJ2_getChar_3b067_7 : decode cJ2_getChar_3b067 7 = .ok (.ifCond .lt 11, 3) := by decide +kernel
theorem dJ2_getChar_3b067_10 : decode cJ2_getChar_3b067 10 = .ok (.iload_n 1, 1) := by decide +kernel
theorem dJ2_getChar_3b067_11 : decode cJ2_getChar_3b067 11 = .ok (.aload_n 0, 1) := by decide +kernel
theorem dJ2_getChar_3b067_12 : decode cJ2_getChar_3b067 12 = .ok (.invokestatic 48, 3) := by decide +kernel
theorem dJ2_getChar_3b067_15 : decode cJ2_getChar_3b067 15 = .ok (.if_icmp .lt 13, 3) := by decide +kernel
theorem dJ2_getChar_3b067_18 : decode cJ2_getChar_3b067 18 = .ok (.new 52, 3) := by decide +kernel
theorem dJ2_getChar_3b067_21 : decode cJ2_getChar_3b067 21 = .ok (.dup, 1) := by decide +kernel
theorem dJ2_getChar_3b067_22 : decode cJ2_getChar_3b067 22 = .ok (.ldc 54, 2) := by decide +kernel
theorem dJ2_getChar_3b067_24 : decode cJ2_getChar_3b067 24 = .ok (.invokespecial 56, 3) := by decide +kernel
theorem dJ2_getChar_3b067_27 : decode cJ2_getChar_3b067 27 = .ok (.athrow, 1) := by decide +kernel
theorem dJ2_getChar_3b067_28 : decode cJ2_getChar_3b067 28 = .ok (.iload_n 1, 1) := by decide +kernel
theorem dJ2_getChar_3b067_29 : decode cJ2_getChar_3b067 29 = .ok (.iconst 1, 1) := by decide +kernel
theorem dJ2_getChar_3b067_30 : decode cJ2_getChar_3b067 30 = .ok (.ishl, 1) := by decide +kernel
theorem dJ2_getChar_3b067_31 : decode cJ2_getChar_3b067 31 = .ok (.istore_n 1, 1) := by decide +kernel
theorem dJ2_getChar_3b067_32 : decode cJ2_getChar_3b067 32 = .ok (.aload_n 0, 1) := by decide +kernel
theorem dJ2_getChar_3b067_33 : decode cJ2_getChar_3b067 33 = .ok (.iload_n 1, 1) := by decide +kernel
theorem dJ2_getChar_3b067_34 : decode cJ2_getChar_3b067 34 = .ok (.iinc 1 1, 3) := by decide +kernel
theorem dJ2_getChar_3b067_37 : decode cJ2_getChar_3b067 37 = .ok (.baload, 1) := by decide +kernel
theorem dJ2_getChar_3b067_38 : decode cJ2_getChar_3b067 38 = .ok (.sipush 255, 3) := by decide +kernel
theorem dJ2_getChar_3b067_41 : decode cJ2_getChar_3b067 41 = .ok (.iand, 1) := by decide +kernel
theorem dJ2_getChar_3b067_42 : decode cJ2_getChar_3b067 42 = .ok (.getstatic 59, 3) := by decide +kernel
theorem dJ2_getChar_3b067_45 : decode cJ2_getChar_3b067 45 = .ok (.ishl, 1) := by decide +kernel
theorem dJ2_getChar_3b067_46 : decode cJ2_getChar_3b067 46 = .ok (.aload_n 0, 1) := by decide +kernel
theorem dJ2_getChar_3b067_47 : decode cJ2_getChar_3b067 47 = .ok (.iload_n 1, 1) := by decide +kernel
theorem dJ2_getChar_3b067_48 : decode cJ2_getChar_3b067 48 = .ok (.baload, 1) := by decide +kernel
theorem dJ2_getChar_3b067_49 : decode cJ2_getChar_3b067 49 = .ok (.sipush 255, 3) := by decide +kernel
theorem dJ2_getChar_3b067_52 : decode cJ2_getChar_3b067 52 = .ok (.iand, 1) := by decide +kernel
theorem dJ2_getChar_3b067_53 : decode cJ2_getChar_3b067 53 = .ok (.getstatic 63, 3) := by decide +kernel
theorem dJ2_getChar_3b067_56 : decode cJ2_getChar_3b067 56 = .ok (.ishl, 1) := by decide +kernel
theorem dJ2_getChar_3b067_57 : decode cJ2_getChar_3b067 57 = .ok (.ior, 1) := by decide +kernel
theorem dJ2_getChar_3b067_58 : decode cJ2_getChar_3b067 58 = .ok (.i2c, 1) := by decide +kernel
theorem dJ2_getChar_3b067_59 : decode cJ2_getChar_3b067 59 = .ok (.ireturn, 1) := by decide +kernel
theorem dJ2_length_9d52b_0 : decode cJ2_length_9d52b 0 = .ok (.aload_n 0, 1) := by decide +kernel
theorem dJ2_length_9d52b_1 : decode cJ2_length_9d52b 1 = .ok (.arraylength, 1) := by decide +kernel
theorem dJ2_length_9d52b_2 : decode cJ2_length_9d52b 2 = .ok (.iconst 1, 1) := by decide +kernel
theorem dJ2_length_9d52b_3 : decode cJ2_length_9d52b 3 = .ok (.ishr, 1) := by decide +kernel
theorem dJ2_length_9d52b_4 : decode cJ2_length_9d52b 4 = .ok (.ireturn, 1) := by decide +kernel
theorem dJ2_indexOf_4cfef_0 : decode cJ2_indexOf_4cfef 0 = .ok (.iload_n 2, 1) := by decide +kernel
theorem dJ2_indexOf_4cfef_1 : decode cJ2_indexOf_4cfef 1 = .ok (.iconst 0, 1) := by decide +kernel
theorem dJ2_indexOf_4cfef_2 : decode cJ2_indexOf_4cfef 2 = .ok (.invokestatic 224, 3) := by decide +kernel
theorem dJ2_indexOf_4cfef_5 : decode cJ2_indexOf_4cfef 5 = .ok (.istore_n 2, 1) := by decide +kernel
theorem dJ2_indexOf_4cfef_6 : decode cJ2_indexOf_4cfef 6 = .ok (.iload_n 3, 1) := by decide +kernel
theorem dJ2_indexOf_4cfef_7 : decode cJ2_indexOf_4cfef 7 = .ok (.aload_n 0, 1) := by decide +kernel
theorem dJ2_indexOf_4cfef_8 : decode cJ2_indexOf_4cfef 8 = .ok (.arraylength, 1) := by decide +kernel
theorem dJ2_indexOf_4cfef_9 : decode cJ2_indexOf_4cfef 9 = .ok (.iconst 1, 1) := by decide +kernel
theorem dJ2_indexOf_4cfef_10 : decode cJ2_indexOf_4cfef 10 = .ok (.ishr, 1) := by decide +kernel
theorem dJ2_indexOf_4cfef_11 : decode cJ2_indexOf_4cfef 11 = .ok (.invokestatic 183, 3) := by decide +kernel
theorem dJ2_indexOf_4cfef_14 : decode cJ2_indexOf_4cfef 14 = .ok (.istore_n 3, 1) := by decide +kernel
theorem dJ2_indexOf_4cfef_15 : decode cJ2_indexOf_4cfef 15 = .ok (.iload_n 2, 1) := by decide +kernel
theorem dJ2_indexOf_4cfef_16 : decode cJ2_indexOf_4cfef 16 = .ok (.iload_n 3, 1) := by decide +kernel
theorem dJ2_indexOf_4cfef_17 : decode cJ2_indexOf_4cfef 17 = .ok (.if_icmp .lt 5, 3) := by decide +kernel
theorem dJ2_indexOf_4cfef_20 : decode cJ2_indexOf_4cfef 20 = .ok (.iconst (-1), 1) := by decide +kernel
theorem dJ2_indexOf_4cfef_21 : decode cJ2_indexOf_4cfef 21 = .ok (.ireturn, 1) := by decide +kernel
theorem dJ2_indexOf_4cfef_22 : decode cJ2_indexOf_4cfef 22 = .ok (.iload_n 1, 1) := by decide +kernel
theorem dJ2_indexOf_4cfef_23 : decode cJ2_indexOf_4cfef 23 = .ok (.ldc 227, 2) := by decide +kernel
theorem dJ2_indexOf_4cfef_25 : decode cJ2_indexOf_4cfef 25 = .ok (.if_icmp .ge 11, 3) := by decide +kernel
theorem dJ2_indexOf_4cfef_28 : decode cJ2_indexOf_4cfef 28 = .ok (.aload_n 0, 1) := by decide +kernel
theorem dJ2_indexOf_4cfef_29 : decode cJ2_indexOf_4cfef 29 = .ok (.iload_n 1, 1) := by decide +kernel
theorem dJ2_indexOf_4cfef_30 : decode cJ2_indexOf_4cfef 30 = .ok (.iload_n 2, 1) := by decide +kernel
theorem dJ2_indexOf_4cfef_31 : decode cJ2_indexOf_4cfef 31 = .ok (.iload_n 3, 1) := by decide +kernel
theorem dJ2_indexOf_4cfef_32 : decode cJ2_indexOf_4cfef 32 = .ok (.invokestatic 228, 3) := by decide +kernel
theorem dJ2_indexOf_4cfef_35 : decode cJ2_indexOf_4cfef 35 = .ok (.ireturn, 1) := by decide +kernel
theorem dJ2_indexOf_4cfef_36 : decode cJ2_indexOf_4cfef 36 = .ok (.aload_n 0, 1) := by decide +kernel
theorem dJ2_indexOf_4cfef_37 : decode cJ2_indexOf_4cfef 37 = .ok (.iload_n 1, 1) := by decide +kernel
theorem dJ2_indexOf_4cfef_38 : decode cJ2_indexOf_4cfef 38 = .ok (.iload_n 2, 1) := by decide +kernel
theorem dJ2_indexOf_4cfef_39 : decode cJ2_indexOf_4cfef 39 = .ok (.iload_n 3, 1) := by decide +kernel
theorem dJ2_indexOf_4cfef_40 : decode cJ2_indexOf_4cfef 40 = .ok (.invokestatic 232, 3) := by decide +kernel
theorem dJ2_indexOf_4cfef_43 : decode cJ2_indexOf_4cfef 43 = .ok (.ireturn, 1) := by decide +kernel
theorem dJ2_indexOfChar_4cfef_0 : decode cJ2_indexOfChar_4cfef 0 = .ok (.iload_n 2, 1) := by decide +kernel
theorem dJ2_indexOfChar_4cfef_1 : decode cJ2_indexOfChar_4cfef 1 = .ok (.iload_n 3, 1) := by decide +kernel
theorem dJ2_indexOfChar_4cfef_2 : decode cJ2_indexOfChar_4cfef 2 = .ok (.aload_n 0, 1) := by decide +kernel
theorem dJ2_indexOfChar_4cfef_3 : decode cJ2_indexOfChar_4cfef 3 = .ok (.invokestatic 96, 3) := by decide +kernel
theorem dJ2_indexOfChar_4cfef_6 : decode cJ2_indexOfChar_4cfef 6 = .ok (.aload_n 0, 1) := by decide +kernel
theorem dJ2_indexOfChar_4cfef_7 : decode cJ2_indexOfChar_4cfef 7 = .ok (.iload_n 1, 1) := by decide +kernel
theorem dJ2_indexOfChar_4cfef_8 : decode cJ2_indexOfChar_4cfef 8 = .ok (.iload_n 2, 1) := by decide +kernel
theorem dJ2_indexOfChar_4cfef_9 : decode cJ2_indexOfChar_4cfef 9 = .ok (.iload_n 3, 1) := by decide +kernel
theorem dJ2_indexOfChar_4cfef_10 : decode cJ2_indexOfChar_4cfef 10 = .ok (.invokestatic 244, 3) := by decide +kernel
theorem dJ2_indexOfChar_4cfef_13 : decode cJ2_indexOfChar_4cfef 13 = .ok (.ireturn, 1) := by decide +kernel
theorem dJ2_indexOfCharUnsafe_4cfef_0 : decode cJ2_indexOfCharUnsafe_4cfef 0 = .ok (.iload_n 2, 1) := by decide +kernel
theorem dJ2_indexOfCharUnsafe_4cfef_1 : decode cJ2_indexOfCharUnsafe_4cfef 1 = .ok (.istore 4, 2) := by decide +kernel
theorem dJ2_indexOfCharUnsafe_4cfef_3 : decode cJ2_indexOfCharUnsafe_4cfef 3 = .ok (.iload 4, 2) := by decide +kernel
theorem dJ2_indexOfCharUnsafe_4cfef_5 : decode cJ2_indexOfCharUnsafe_4cfef 5 = .ok (.iload_n 3, 1) := by decide +kernel
theorem dJ2_indexOfCharUnsafe_4cfef_6 : decode cJ2_indexOfCharUnsafe_4cfef 6 = .ok (.if_icmp .ge 22, 3) := by decide +kernel
theorem dJ2_indexOfCharUnsafe_4cfef_9 : decode cJ2_indexOfCharUnsafe_4cfef 9 = .ok (.aload_n 0, 1) := by decide +kernel
theorem dJ2_indexOfCharUnsafe_4cfef_10 : decode cJ2_indexOfCharUnsafe_4cfef 10 = .ok (.iload 4, 2) := by decide +kernel
theorem dJ2_indexOfCharUnsafe_4cfef_12 : decode cJ2_indexOfCharUnsafe_4cfef 12 = .ok (.invokestatic 71, 3) := by decide +kernel
theorem dJ2_indexOfCharUnsafe_4cfef_15 : decode cJ2_indexOfCharUnsafe_4cfef 15 = .ok (.iload_n 1, 1) := by decide +kernel
theorem dJ2_indexOfCharUnsafe_4cfef_16 : decode cJ2_indexOfCharUnsafe_4cfef 16 = .ok (.if_icmp .ne 6, 3) := by decide +kernel
theorem dJ2_indexOfCharUnsafe_4cfef_19 : decode cJ2_indexOfCharUnsafe_4cfef 19 = .ok (.iload 4, 2) := by decide +kernel
theorem dJ2_indexOfCharUnsafe_4cfef_21 : decode cJ2_indexOfCharUnsafe_4cfef 21 = .ok (.ireturn, 1) := by decide +kernel
theorem dJ2_indexOfCharUnsafe_4cfef_22 : decode cJ2_indexOfCharUnsafe_4cfef 22 = .ok (.iinc 4 1, 3) := by decide +kernel
theorem dJ2_indexOfCharUnsafe_4cfef_25 : decode cJ2_indexOfCharUnsafe_4cfef 25 = .ok (.goto (-22), 3) := by decide +kernel
theorem dJ2_indexOfCharUnsafe_4cfef_28 : decode cJ2_indexOfCharUnsafe_4cfef 28 = .ok (.iconst (-1), 1) := by decide +kernel
theorem dJ2_indexOfCharUnsafe_4cfef_29 : decode cJ2_indexOfCharUnsafe_4cfef 29 = .ok (.ireturn, 1) := by decide +kernel
theorem dJ2_indexOfSupplementary_4cfef_0 : decode cJ2_indexOfSupplementary_4cfef 0 = .ok (.iload_n 1, 1) := by decide +kernel
theorem dJ2_indexOfSupplementary_4cfef_1 : decode cJ2_indexOfSupplementary_4cfef 1 = .ok (.invokestatic 164, 3) := by decide +kernel
theorem dJ2_indexOfSupplementary_4cfef_4 : decode cJ2_indexOfSupplementary_4cfef 4 = .ok (.ifCond .eq 65, 3) := by decide +kernel
theorem dJ2_indexOfSupplementary_4cfef_7 : decode cJ2_indexOfSupplementary_4cfef 7 = .ok (.iload_n 1, 1) := by decide +kernel
theorem dJ2_indexOfSupplementary_4cfef_8 : decode cJ2_indexOfSupplementary_4cfef 8 = .ok (.invokestatic 157, 3) := by decide +kernel
theorem dJ2_indexOfSupplementary_4cfef_11 : decode cJ2_indexOfSupplementary_4cfef 11 = .ok (.istore 4, 2) := by decide +kernel
theorem dJ2_indexOfSupplementary_4cfef_13 : decode cJ2_indexOfSupplementary_4cfef 13 = .ok (.iload_n 1, 1) := by decide +kernel
theorem dJ2_indexOfSupplementary_4cfef_14 : decode cJ2_indexOfSupplementary_4cfef 14 = .ok (.invokestatic 161, 3) := by decide +kernel
theorem dJ2_indexOfSupplementary_4cfef_17 : decode cJ2_indexOfSupplementary_4cfef 17 = .ok (.istore 5, 2) := by decide +kernel
theorem dJ2_indexOfSupplementary_4cfef_19 : decode cJ2_indexOfSupplementary_4cfef 19 = .ok (.iload_n 2, 1) := by decide +kernel
theorem dJ2_indexOfSupplementary_4cfef_20 : decode cJ2_indexOfSupplementary_4cfef 20 = .ok (.iload_n 3, 1) := by decide +kernel
theorem dJ2_indexOfSupplementary_4cfef_21 : decode cJ2_indexOfSupplementary_4cfef 21 = .ok (.aload_n 0, 1) := by decide +kernel
theorem dJ2_indexOfSupplementary_4cfef_22 : decode cJ2_indexOfSupplementary_4cfef 22 = .ok (.invokestatic 96, 3) := by decide +kernel
theorem dJ2_indexOfSupplementary_4cfef_25 : decode cJ2_indexOfSupplementary_4cfef 25 = .ok (.iload_n 2, 1) := by decide +kernel
theorem dJ2_indexOfSupplementary_4cfef_26 : decode cJ2_indexOfSupplementary_4cfef 26 = .ok (.istore 6, 2) := by decide +kernel
theorem dJ2_indexOfSupplementary_4cfef_28 : decode cJ2_indexOfSupplementary_4cfef 28 = .ok (.iload 6, 2) := by decide +kernel
theorem dJ2_indexOfSupplementary_4cfef_30 : decode cJ2_indexOfSupplementary_4cfef 30 = .ok (.iload_n 3, 1) := by decide +kernel
theorem dJ2_indexOfSupplementary_4cfef_31 : decode cJ2_indexOfSupplementary_4cfef 31 = .ok (.iconst 1, 1) := by decide +kernel
theorem dJ2_indexOfSupplementary_4cfef_32 : decode cJ2_indexOfSupplementary_4cfef 32 = .ok (.isub, 1) := by decide +kernel
theorem dJ2_indexOfSupplementary_4cfef_33 : decode cJ2_indexOfSupplementary_4cfef 33 = .ok (.if_icmp .ge 36, 3) := by decide +kernel
theorem dJ2_indexOfSupplementary_4cfef_36 : decode cJ2_indexOfSupplementary_4cfef 36 = .ok (.aload_n 0, 1) := by decide +kernel
theorem dJ2_indexOfSupplementary_4cfef_37 : decode cJ2_indexOfSupplementary_4cfef 37 = .ok (.iload 6, 2) := by decide +kernel
theorem dJ2_indexOfSupplementary_4cfef_39 : decode cJ2_indexOfSupplementary_4cfef 39 = .ok (.invokestatic 71, 3) := by decide +kernel
theorem dJ2_indexOfSupplementary_4cfef_42 : decode cJ2_indexOfSupplementary_4cfef 42 = .ok (.iload 4, 2) := by decide +kernel
theorem dJ2_indexOfSupplementary_4cfef_44 : decode cJ2_indexOfSupplementary_4cfef 44 = .ok (.if_icmp .ne 19, 3) := by decide +kernel
theorem dJ2_indexOfSupplementary_4cfef_47 : decode cJ2_indexOfSupplementary_4cfef 47 = .ok (.aload_n 0, 1) := by decide +kernel
theorem dJ2_indexOfSupplementary_4cfef_48 : decode cJ2_indexOfSupplementary_4cfef 48 = .ok (.iload 6, 2) := by decide +kernel
theorem dJ2_indexOfSupplementary_4cfef_50 : decode cJ2_indexOfSupplementary_4cfef 50 = .ok (.iconst 1, 1) := by decide +kernel
theorem dJ2_indexOfSupplementary_4cfef_51 : decode cJ2_indexOfSupplementary_4cfef 51 = .ok (.iadd, 1) := by decide +kernel
theorem dJ2_indexOfSupplementary_4cfef_52 : decode cJ2_indexOfSupplementary_4cfef 52 = .ok (.invokestatic 71, 3) := by decide +kernel
theorem dJ2_indexOfSupplementary_4cfef_55 : decode cJ2_indexOfSupplementary_4cfef 55 = .ok (.iload 5, 2) := by decide +kernel
theorem dJ2_indexOfSupplementary_4cfef_57 : decode cJ2_indexOfSupplementary_4cfef 57 = .ok (.if_icmp .ne 6, 3) := by decide +kernel
theorem dJ2_indexOfSupplementary_4cfef_60 : decode cJ2_indexOfSupplementary_4cfef 60 = .ok (.iload 6, 2) := by decide +kernel
theorem dJ2_indexOfSupplementary_4cfef_62 : decode cJ2_indexOfSupplementary_4cfef 62 = .ok (.ireturn, 1) := by decide +kernel
theorem dJ2_indexOfSupplementary_4cfef_63 : decode cJ2_indexOfSupplementary_4cfef 63 = .ok (.iinc 6 1, 3) := by decide +kernel
theorem dJ2_indexOfSupplementary_4cfef_66 : decode cJ2_indexOfSupplementary_4cfef 66 = .ok (.goto (-38), 3) := by decide +kernel
theorem dJ2_indexOfSupplementary_4cfef_69 : decode cJ2_indexOfSupplementary_4cfef 69 = .ok (.iconst (-1), 1) := by decide +kernel
theorem dJ2_indexOfSupplementary_4cfef_70 : decode cJ2_indexOfSupplementary_4cfef 70 = .ok (.ireturn, 1) := by decide +kernel
theorem dJ2_charAt_3b067_0 : decode cJ2_charAt_3b067 0 = .ok (.iload_n 1, 1) := by decide +kernel
theorem dJ2_charAt_3b067_1 : decode cJ2_charAt_3b067 1 = .ok (.aload_n 0, 1) := by decide +kernel
theorem dJ2_charAt_3b067_2 : decode cJ2_charAt_3b067 2 = .ok (.invokestatic 67, 3) := by decide +kernel
theorem dJ2_charAt_3b067_5 : decode cJ2_charAt_3b067 5 = .ok (.aload_n 0, 1) := by decide +kernel
theorem dJ2_charAt_3b067_6 : decode cJ2_charAt_3b067 6 = .ok (.iload_n 1, 1) := by decide +kernel
theorem dJ2_charAt_3b067_7 : decode cJ2_charAt_3b067 7 = .ok (.invokestatic 71, 3) := by decide +kernel
theorem dJ2_charAt_3b067_10 : decode cJ2_charAt_3b067 10 = .ok (.ireturn, 1) := by decide +kernel
theorem dJ2_checkIndex_2214a_0 : decode cJ2_checkIndex_2214a 0 = .ok (.iload_n 0, 1) := by decide +kernel
theorem dJ2_checkIndex_2214a_1 : decode cJ2_checkIndex_2214a 1 = .ok (.aload_n 1, 1) := by decide +kernel
theorem dJ2_checkIndex_2214a_2 : decode cJ2_checkIndex_2214a 2 = .ok (.invokestatic 48, 3) := by decide +kernel
theorem dJ2_checkIndex_2214a_5 : decode cJ2_checkIndex_2214a 5 = .ok (.invokestatic 414, 3) := by decide +kernel
theorem dJ2_checkIndex_2214a_8 : decode cJ2_checkIndex_2214a 8 = .ok (.return_, 1) := by decide +kernel
theorem dJ2_checkBoundsBeginEnd_d044e_0 : decode cJ2_checkBoundsBeginEnd_d044e 0 = .ok (.iload_n 0, 1) := by decide +kernel
theorem dJ2_checkBoundsBeginEnd_d044e_1 : decode cJ2_checkBoundsBeginEnd_d044e 1 = .ok (.iload_n 1, 1) := by decide +kernel
theorem dJ2_checkBoundsBeginEnd_d044e_2 : decode cJ2_checkBoundsBeginEnd_d044e 2 = .ok (.aload_n 2, 1) := by decide +kernel
theorem dJ2_checkBoundsBeginEnd_d044e_3 : decode cJ2_checkBoundsBeginEnd_d044e 3 = .ok (.invokestatic 48, 3) := by decide +kernel
theorem dJ2_checkBoundsBeginEnd_d044e_6 : decode cJ2_checkBoundsBeginEnd_d044e 6 = .ok (.invokestatic 241, 3) := by decide +kernel
theorem dJ2_checkBoundsBeginEnd_d044e_9 : decode cJ2_checkBoundsBeginEnd_d044e 9 = .ok (.return_, 1) := by decide +kernel
theorem dJ7_fill_53178_0 : decode cJ7_fill_53178 0 = .ok (.iconst 0, 1) := by decide +kernel
theorem dJ7_fill_53178_1 : decode cJ7_fill_53178 1 = .ok (.istore_n 2, 1) := by decide +kernel
theorem dJ7_fill_53178_2 : decode cJ7_fill_53178 2 = .ok (.aload_n 0, 1) := by decide +kernel
theorem dJ7_fill_53178_3 : decode cJ7_fill_53178 3 = .ok (.arraylength, 1) := by decide +kernel
theorem dJ7_fill_53178_4 : decode cJ7_fill_53178 4 = .ok (.istore_n 3, 1) := by decide +kernel
theorem dJ7_fill_53178_5 : decode cJ7_fill_53178 5 = .ok (.iload_n 2, 1) := by decide +kernel
theorem dJ7_fill_53178_6 : decode cJ7_fill_53178 6 = .ok (.iload_n 3, 1) := by decide +kernel
theorem dJ7_fill_53178_7 : decode cJ7_fill_53178 7 = .ok (.if_icmp .ge 13, 3) := by decide +kernel
theorem dJ7_fill_53178_10 : decode cJ7_fill_53178 10 = .ok (.aload_n 0, 1) := by decide +kernel
theorem dJ7_fill_53178_11 : decode cJ7_fill_53178 11 = .ok (.iload_n 2, 1) := by decide +kernel
theorem dJ7_fill_53178_12 : decode cJ7_fill_53178 12 = .ok (.iload_n 1, 1) := by decide +kernel
theorem dJ7_fill_53178_13 : decode cJ7_fill_53178 13 = .ok (.iastore, 1) := by decide +kernel
theorem dJ7_fill_53178_14 : decode cJ7_fill_53178 14 = .ok (.iinc 2 1, 3) := by decide +kernel
theorem dJ7_fill_53178_17 : decode cJ7_fill_53178 17 = .ok (.goto (-12), 3) := by decide +kernel
theorem dJ7_fill_53178_20 : decode cJ7_fill_53178 20 = .ok (.return_, 1) := by decide +kernel
theorem dJ3_checkIndex_8e157_0 : decode cJ3_checkIndex_8e157 0 = .ok (.iload_n 0, 1) := by decide +kernel
theorem dJ3_checkIndex_8e157_1 : decode cJ3_checkIndex_8e157 1 = .ok (.ifCond .lt 8, 3) := by decide +kernel
theorem dJ3_checkIndex_8e157_4 : decode cJ3_checkIndex_8e157 4 = .ok (.iload_n 0, 1) := by decide +kernel
theorem dJ3_checkIndex_8e157_5 : decode cJ3_checkIndex_8e157 5 = .ok (.iload_n 1, 1) := by decide +kernel
theorem dJ3_checkIndex_8e157_6 : decode cJ3_checkIndex_8e157 6 = .ok (.if_icmp .lt 10, 3) := by decide +kernel
theorem dJ3_checkIndex_8e157_9 : decode cJ3_checkIndex_8e157 9 = .ok (.aload_n 2, 1) := by decide +kernel
theorem dJ3_checkIndex_8e157_10 : decode cJ3_checkIndex_8e157 10 = .ok (.iload_n 0, 1) := by decide +kernel
theorem dJ3_checkIndex_8e157_11 : decode cJ3_checkIndex_8e157 11 = .ok (.iload_n 1, 1) := by decide +kernel
theorem dJ3_checkIndex_8e157_12 : decode cJ3_checkIndex_8e157 12 = .ok (.invokestatic 95, 3) := by decide +kernel
theorem dJ3_checkIndex_8e157_15 : decode cJ3_checkIndex_8e157 15 = .ok (.athrow, 1) := by decide +kernel
theorem dJ3_checkIndex_8e157_16 : decode cJ3_checkIndex_8e157 16 = .ok (.iload_n 0, 1) := by decide +kernel
theorem dJ3_checkIndex_8e157_17 : decode cJ3_checkIndex_8e157 17 = .ok (.ireturn, 1) := by decide +kernel
theorem dJ3_checkFromToIndex_8c36e_0 : decode cJ3_checkFromToIndex_8c36e 0 = .ok (.iload_n 0, 1) := by decide +kernel
theorem dJ3_checkFromToIndex_8c36e_1 : decode cJ3_checkFromToIndex_8c36e 1 = .ok (.ifCond .lt 13, 3) := by decide +kernel
theorem dJ3_checkFromToIndex_8c36e_4 : decode cJ3_checkFromToIndex_8c36e 4 = .ok (.iload_n 0, 1) := by decide +kernel
theorem dJ3_checkFromToIndex_8c36e_5 : decode cJ3_checkFromToIndex_8c36e 5 = .ok (.iload_n 1, 1) := by decide +kernel
theorem dJ3_checkFromToIndex_8c36e_6 : decode cJ3_checkFromToIndex_8c36e 6 = .ok (.if_icmp .gt 8, 3) := by decide +kernel
theorem dJ3_checkFromToIndex_8c36e_9 : decode cJ3_checkFromToIndex_8c36e 9 = .ok (.iload_n 1, 1) := by decide +kernel
theorem dJ3_checkFromToIndex_8c36e_10 : decode cJ3_checkFromToIndex_8c36e 10 = .ok (.iload_n 2, 1) := by decide +kernel
theorem dJ3_checkFromToIndex_8c36e_11 : decode cJ3_checkFromToIndex_8c36e 11 = .ok (.if_icmp .le 11, 3) := by decide +kernel
theorem dJ3_checkFromToIndex_8c36e_14 : decode cJ3_checkFromToIndex_8c36e 14 = .ok (.aload_n 3, 1) := by decide +kernel
theorem dJ3_checkFromToIndex_8c36e_15 : decode cJ3_checkFromToIndex_8c36e 15 = .ok (.iload_n 0, 1) := by decide +kernel
theorem dJ3_checkFromToIndex_8c36e_16 : decode cJ3_checkFromToIndex_8c36e 16 = .ok (.iload_n 1, 1) := by decide +kernel
theorem dJ3_checkFromToIndex_8c36e_17 : decode cJ3_checkFromToIndex_8c36e 17 = .ok (.iload_n 2, 1) := by decide +kernel
theorem dJ3_checkFromToIndex_8c36e_18 : decode cJ3_checkFromToIndex_8c36e 18 = .ok (.invokestatic 99, 3) := by decide +kernel
theorem dJ3_checkFromToIndex_8c36e_21 : decode cJ3_checkFromToIndex_8c36e 21 = .ok (.athrow, 1) := by decide +kernel
theorem dJ3_checkFromToIndex_8c36e_22 : decode cJ3_checkFromToIndex_8c36e 22 = .ok (.iload_n 0, 1) := by decide +kernel
theorem dJ3_checkFromToIndex_8c36e_23 : decode cJ3_checkFromToIndex_8c36e 23 = .ok (.ireturn, 1) := by decide +kernel
theorem dL_village_0 : decode cL_village 0 = .ok (.aload_n 2, 1) := by decide +kernel
theorem dL_village_1 : decode cL_village 1 = .ok (.iconst 0, 1) := by decide +kernel
theorem dL_village_2 : decode cL_village 2 = .ok (.aload_n 0, 1) := by decide +kernel
theorem dL_village_3 : decode cL_village 3 = .ok (.iload_n 1, 1) := by decide +kernel
theorem dL_village_4 : decode cL_village 4 = .ok (.invokevirtual 7, 3) := by decide +kernel
theorem dL_village_7 : decode cL_village 7 = .ok (.i2l, 1) := by decide +kernel
theorem dL_village_8 : decode cL_village 8 = .ok (.lastore, 1) := by decide +kernel
theorem dL_village_9 : decode cL_village 9 = .ok (.goto 6, 3) := by decide +kernel
theorem dL_village_12 : decode cL_village 12 = .ok (.astore_n 3, 1) := by decide +kernel
theorem dL_village_13 : decode cL_village 13 = .ok (.iconst 1, 1) := by decide +kernel
theorem dL_village_14 : decode cL_village 14 = .ok (.ireturn, 1) := by decide +kernel
theorem dL_village_15 : decode cL_village 15 = .ok (.iconst 0, 1) := by decide +kernel
theorem dL_village_16 : decode cL_village 16 = .ok (.ireturn, 1) := by decide +kernel
theorem dL_count_0 : decode cL_count 0 = .ok (.aload_n 2, 1) := by decide +kernel
theorem dL_count_1 : decode cL_count 1 = .ok (.iconst 0, 1) := by decide +kernel
theorem dL_count_2 : decode cL_count 2 = .ok (.aload_n 0, 1) := by decide +kernel
theorem dL_count_3 : decode cL_count 3 = .ok (.iload_n 1, 1) := by decide +kernel
theorem dL_count_4 : decode cL_count 4 = .ok (.invokevirtual 15, 3) := by decide +kernel
theorem dL_count_7 : decode cL_count 7 = .ok (.i2l, 1) := by decide +kernel
theorem dL_count_8 : decode cL_count 8 = .ok (.lastore, 1) := by decide +kernel
theorem dL_count_9 : decode cL_count 9 = .ok (.goto 6, 3) := by decide +kernel
theorem dL_count_12 : decode cL_count 12 = .ok (.astore_n 3, 1) := by decide +kernel
theorem dL_count_13 : decode cL_count 13 = .ok (.iconst 1, 1) := by decide +kernel
theorem dL_count_14 : decode cL_count 14 = .ok (.ireturn, 1) := by decide +kernel
theorem dL_count_15 : decode cL_count 15 = .ok (.iconst 0, 1) := by decide +kernel
theorem dL_count_16 : decode cL_count 16 = .ok (.ireturn, 1) := by decide +kernel
theorem dL_person_0 : decode cL_person 0 = .ok (.aload_n 3, 1) := by decide +kernel
theorem dL_person_1 : decode cL_person 1 = .ok (.iconst 0, 1) := by decide +kernel
theorem dL_person_2 : decode cL_person 2 = .ok (.aload_n 0, 1) := by decide +kernel
theorem dL_person_3 : decode cL_person 3 = .ok (.iload_n 1, 1) := by decide +kernel
theorem dL_person_4 : decode cL_person 4 = .ok (.iload_n 2, 1) := by decide +kernel
theorem dL_person_5 : decode cL_person 5 = .ok (.invokevirtual 20, 3) := by decide +kernel
theorem dL_person_8 : decode cL_person 8 = .ok (.i2l, 1) := by decide +kernel
theorem dL_person_9 : decode cL_person 9 = .ok (.lastore, 1) := by decide +kernel
theorem dL_person_10 : decode cL_person 10 = .ok (.goto 7, 3) := by decide +kernel
theorem dL_person_13 : decode cL_person 13 = .ok (.astore 4, 2) := by decide +kernel
theorem dL_person_15 : decode cL_person 15 = .ok (.iconst 1, 1) := by decide +kernel
theorem dL_person_16 : decode cL_person 16 = .ok (.ireturn, 1) := by decide +kernel
theorem dL_person_17 : decode cL_person 17 = .ok (.iconst 0, 1) := by decide +kernel
theorem dL_person_18 : decode cL_person 18 = .ok (.ireturn, 1) := by decide +kernel
theorem dL_house_0 : decode cL_house 0 = .ok (.aload_n 3, 1) := by decide +kernel
theorem dL_house_1 : decode cL_house 1 = .ok (.iconst 0, 1) := by decide +kernel
theorem dL_house_2 : decode cL_house 2 = .ok (.aload_n 0, 1) := by decide +kernel
theorem dL_house_3 : decode cL_house 3 = .ok (.iload_n 1, 1) := by decide +kernel
theorem dL_house_4 : decode cL_house 4 = .ok (.iload_n 2, 1) := by decide +kernel
theorem dL_house_5 : decode cL_house 5 = .ok (.invokevirtual 24, 3) := by decide +kernel
theorem dL_house_8 : decode cL_house 8 = .ok (.i2l, 1) := by decide +kernel
theorem dL_house_9 : decode cL_house 9 = .ok (.lastore, 1) := by decide +kernel
theorem dL_house_10 : decode cL_house 10 = .ok (.goto 7, 3) := by decide +kernel
theorem dL_house_13 : decode cL_house 13 = .ok (.astore 4, 2) := by decide +kernel
theorem dL_house_15 : decode cL_house 15 = .ok (.iconst 1, 1) := by decide +kernel
theorem dL_house_16 : decode cL_house 16 = .ok (.ireturn, 1) := by decide +kernel
theorem dL_house_17 : decode cL_house 17 = .ok (.iconst 0, 1) := by decide +kernel
theorem dL_house_18 : decode cL_house 18 = .ok (.ireturn, 1) := by decide +kernel
theorem dL_move_0 : decode cL_move 0 = .ok (.aload_n 3, 1) := by decide +kernel
theorem dL_move_1 : decode cL_move 1 = .ok (.iconst 0, 1) := by decide +kernel
theorem dL_move_2 : decode cL_move 2 = .ok (.aload_n 0, 1) := by decide +kernel
theorem dL_move_3 : decode cL_move 3 = .ok (.iload_n 1, 1) := by decide +kernel
theorem dL_move_4 : decode cL_move 4 = .ok (.iload_n 2, 1) := by decide +kernel
theorem dL_move_5 : decode cL_move 5 = .ok (.invokevirtual 27, 3) := by decide +kernel
theorem dL_move_8 : decode cL_move 8 = .ok (.i2l, 1) := by decide +kernel
theorem dL_move_9 : decode cL_move 9 = .ok (.lastore, 1) := by decide +kernel
theorem dL_move_10 : decode cL_move 10 = .ok (.goto 7, 3) := by decide +kernel
theorem dL_move_13 : decode cL_move 13 = .ok (.astore 4, 2) := by decide +kernel
theorem dL_move_15 : decode cL_move 15 = .ok (.iconst 1, 1) := by decide +kernel
theorem dL_move_16 : decode cL_move 16 = .ok (.ireturn, 1) := by decide +kernel
theorem dL_move_17 : decode cL_move 17 = .ok (.iconst 0, 1) := by decide +kernel
theorem dL_move_18 : decode cL_move 18 = .ok (.ireturn, 1) := by decide +kernel
theorem dL_found_0 : decode cL_found 0 = .ok (.aload_n 2, 1) := by decide +kernel
theorem dL_found_1 : decode cL_found 1 = .ok (.iconst 0, 1) := by decide +kernel
theorem dL_found_2 : decode cL_found 2 = .ok (.aload_n 0, 1) := by decide +kernel
theorem dL_found_3 : decode cL_found 3 = .ok (.iload_n 1, 1) := by decide +kernel
theorem dL_found_4 : decode cL_found 4 = .ok (.invokevirtual 30, 3) := by decide +kernel
theorem dL_found_7 : decode cL_found 7 = .ok (.i2l, 1) := by decide +kernel
theorem dL_found_8 : decode cL_found 8 = .ok (.lastore, 1) := by decide +kernel
theorem dL_found_9 : decode cL_found 9 = .ok (.goto 6, 3) := by decide +kernel
theorem dL_found_12 : decode cL_found 12 = .ok (.astore_n 3, 1) := by decide +kernel
theorem dL_found_13 : decode cL_found 13 = .ok (.iconst 1, 1) := by decide +kernel
theorem dL_found_14 : decode cL_found 14 = .ok (.ireturn, 1) := by decide +kernel
theorem dL_found_15 : decode cL_found 15 = .ok (.iconst 0, 1) := by decide +kernel
theorem dL_found_16 : decode cL_found 16 = .ok (.ireturn, 1) := by decide +kernel
theorem dL_join_0 : decode cL_join 0 = .ok (.aload_n 3, 1) := by decide +kernel
theorem dL_join_1 : decode cL_join 1 = .ok (.iconst 0, 1) := by decide +kernel
theorem dL_join_2 : decode cL_join 2 = .ok (.aload_n 0, 1) := by decide +kernel
theorem dL_join_3 : decode cL_join 3 = .ok (.iload_n 1, 1) := by decide +kernel
theorem dL_join_4 : decode cL_join 4 = .ok (.iload_n 2, 1) := by decide +kernel
theorem dL_join_5 : decode cL_join 5 = .ok (.invokevirtual 33, 3) := by decide +kernel
theorem dL_join_8 : decode cL_join 8 = .ok (.i2l, 1) := by decide +kernel
theorem dL_join_9 : decode cL_join 9 = .ok (.lastore, 1) := by decide +kernel
theorem dL_join_10 : decode cL_join 10 = .ok (.goto 7, 3) := by decide +kernel
theorem dL_join_13 : decode cL_join 13 = .ok (.astore 4, 2) := by decide +kernel
theorem dL_join_15 : decode cL_join 15 = .ok (.iconst 1, 1) := by decide +kernel
theorem dL_join_16 : decode cL_join 16 = .ok (.ireturn, 1) := by decide +kernel
theorem dL_join_17 : decode cL_join 17 = .ok (.iconst 0, 1) := by decide +kernel
theorem dL_join_18 : decode cL_join 18 = .ok (.ireturn, 1) := by decide +kernel
theorem dL_rank_0 : decode cL_rank 0 = .ok (.aload_n 3, 1) := by decide +kernel
theorem dL_rank_1 : decode cL_rank 1 = .ok (.iconst 0, 1) := by decide +kernel
theorem dL_rank_2 : decode cL_rank 2 = .ok (.aload_n 0, 1) := by decide +kernel
theorem dL_rank_3 : decode cL_rank 3 = .ok (.iload_n 1, 1) := by decide +kernel
theorem dL_rank_4 : decode cL_rank 4 = .ok (.iload_n 2, 1) := by decide +kernel
theorem dL_rank_5 : decode cL_rank 5 = .ok (.invokevirtual 36, 3) := by decide +kernel
theorem dL_rank_8 : decode cL_rank 8 = .ok (.i2l, 1) := by decide +kernel
theorem dL_rank_9 : decode cL_rank 9 = .ok (.lastore, 1) := by decide +kernel
theorem dL_rank_10 : decode cL_rank 10 = .ok (.goto 7, 3) := by decide +kernel
theorem dL_rank_13 : decode cL_rank 13 = .ok (.astore 4, 2) := by decide +kernel
theorem dL_rank_15 : decode cL_rank 15 = .ok (.iconst 1, 1) := by decide +kernel
theorem dL_rank_16 : decode cL_rank 16 = .ok (.ireturn, 1) := by decide +kernel
theorem dL_rank_17 : decode cL_rank 17 = .ok (.iconst 0, 1) := by decide +kernel
theorem dL_rank_18 : decode cL_rank 18 = .ok (.ireturn, 1) := by decide +kernel
theorem dL_then_0 : decode cL_then 0 = .ok (.aload 4, 2) := by decide +kernel
theorem dL_then_2 : decode cL_then 2 = .ok (.iconst 0, 1) := by decide +kernel
theorem dL_then_3 : decode cL_then 3 = .ok (.aload_n 0, 1) := by decide +kernel
theorem dL_then_4 : decode cL_then 4 = .ok (.iload_n 1, 1) := by decide +kernel
theorem dL_then_5 : decode cL_then 5 = .ok (.iload_n 2, 1) := by decide +kernel
theorem dL_then_6 : decode cL_then 6 = .ok (.iload_n 3, 1) := by decide +kernel
theorem dL_then_7 : decode cL_then 7 = .ok (.invokevirtual 39, 3) := by decide +kernel
theorem dL_then_10 : decode cL_then 10 = .ok (.i2l, 1) := by decide +kernel
theorem dL_then_11 : decode cL_then 11 = .ok (.lastore, 1) := by decide +kernel
theorem dL_then_12 : decode cL_then 12 = .ok (.goto 11, 3) := by decide +kernel
theorem dL_then_15 : decode cL_then 15 = .ok (.astore 5, 2) := by decide +kernel
theorem dL_then_17 : decode cL_then 17 = .ok (.iconst 1, 1) := by decide +kernel
theorem dL_then_18 : decode cL_then 18 = .ok (.ireturn, 1) := by decide +kernel
theorem dL_then_19 : decode cL_then 19 = .ok (.astore 5, 2) := by decide +kernel
theorem dL_then_21 : decode cL_then 21 = .ok (.iconst 2, 1) := by decide +kernel
theorem dL_then_22 : decode cL_then 22 = .ok (.ireturn, 1) := by decide +kernel
theorem dL_then_23 : decode cL_then 23 = .ok (.iconst 0, 1) := by decide +kernel
theorem dL_then_24 : decode cL_then 24 = .ok (.ireturn, 1) := by decide +kernel
theorem dL_size_0 : decode cL_size 0 = .ok (.aload_n 3, 1) := by decide +kernel
theorem dL_size_1 : decode cL_size 1 = .ok (.iconst 0, 1) := by decide +kernel
theorem dL_size_2 : decode cL_size 2 = .ok (.aload_n 0, 1) := by decide +kernel
theorem dL_size_3 : decode cL_size 3 = .ok (.iload_n 1, 1) := by decide +kernel
theorem dL_size_4 : decode cL_size 4 = .ok (.iload_n 2, 1) := by decide +kernel
theorem dL_size_5 : decode cL_size 5 = .ok (.invokevirtual 43, 3) := by decide +kernel
theorem dL_size_8 : decode cL_size 8 = .ok (.i2l, 1) := by decide +kernel
theorem dL_size_9 : decode cL_size 9 = .ok (.lastore, 1) := by decide +kernel
theorem dL_size_10 : decode cL_size 10 = .ok (.goto 7, 3) := by decide +kernel
theorem dL_size_13 : decode cL_size 13 = .ok (.astore 4, 2) := by decide +kernel
theorem dL_size_15 : decode cL_size 15 = .ok (.iconst 1, 1) := by decide +kernel
theorem dL_size_16 : decode cL_size 16 = .ok (.ireturn, 1) := by decide +kernel
theorem dL_size_17 : decode cL_size 17 = .ok (.iconst 0, 1) := by decide +kernel
theorem dL_size_18 : decode cL_size 18 = .ok (.ireturn, 1) := by decide +kernel
theorem dL_later_0 : decode cL_later 0 = .ok (.aload_n 3, 1) := by decide +kernel
theorem dL_later_1 : decode cL_later 1 = .ok (.iconst 0, 1) := by decide +kernel
theorem dL_later_2 : decode cL_later 2 = .ok (.aload_n 0, 1) := by decide +kernel
theorem dL_later_3 : decode cL_later 3 = .ok (.iload_n 1, 1) := by decide +kernel
theorem dL_later_4 : decode cL_later 4 = .ok (.iload_n 2, 1) := by decide +kernel
theorem dL_later_5 : decode cL_later 5 = .ok (.invokevirtual 46, 3) := by decide +kernel
theorem dL_later_8 : decode cL_later 8 = .ok (.i2l, 1) := by decide +kernel
theorem dL_later_9 : decode cL_later 9 = .ok (.lastore, 1) := by decide +kernel
theorem dL_later_10 : decode cL_later 10 = .ok (.goto 11, 3) := by decide +kernel
theorem dL_later_13 : decode cL_later 13 = .ok (.astore 4, 2) := by decide +kernel
theorem dL_later_15 : decode cL_later 15 = .ok (.iconst 1, 1) := by decide +kernel
theorem dL_later_16 : decode cL_later 16 = .ok (.ireturn, 1) := by decide +kernel
theorem dL_later_17 : decode cL_later 17 = .ok (.astore 4, 2) := by decide +kernel
theorem dL_later_19 : decode cL_later 19 = .ok (.iconst 2, 1) := by decide +kernel
theorem dL_later_20 : decode cL_later 20 = .ok (.ireturn, 1) := by decide +kernel
theorem dL_later_21 : decode cL_later 21 = .ok (.iconst 0, 1) := by decide +kernel
theorem dL_later_22 : decode cL_later 22 = .ok (.ireturn, 1) := by decide +kernel
theorem dL_meet_0 : decode cL_meet 0 = .ok (.aload 4, 2) := by decide +kernel
theorem dL_meet_2 : decode cL_meet 2 = .ok (.iconst 0, 1) := by decide +kernel
theorem dL_meet_3 : decode cL_meet 3 = .ok (.aload_n 0, 1) := by decide +kernel
theorem dL_meet_4 : decode cL_meet 4 = .ok (.iload_n 1, 1) := by decide +kernel
theorem dL_meet_5 : decode cL_meet 5 = .ok (.iload_n 2, 1) := by decide +kernel
theorem dL_meet_6 : decode cL_meet 6 = .ok (.iload_n 3, 1) := by decide +kernel
theorem dL_meet_7 : decode cL_meet 7 = .ok (.invokevirtual 49, 3) := by decide +kernel
theorem dL_meet_10 : decode cL_meet 10 = .ok (.i2l, 1) := by decide +kernel
theorem dL_meet_11 : decode cL_meet 11 = .ok (.lastore, 1) := by decide +kernel
theorem dL_meet_12 : decode cL_meet 12 = .ok (.goto 7, 3) := by decide +kernel
theorem dL_meet_15 : decode cL_meet 15 = .ok (.astore 5, 2) := by decide +kernel
theorem dL_meet_17 : decode cL_meet 17 = .ok (.iconst 1, 1) := by decide +kernel
theorem dL_meet_18 : decode cL_meet 18 = .ok (.ireturn, 1) := by decide +kernel
theorem dL_meet_19 : decode cL_meet 19 = .ok (.iconst 0, 1) := by decide +kernel
theorem dL_meet_20 : decode cL_meet 20 = .ok (.ireturn, 1) := by decide +kernel
theorem dL_together_0 : decode cL_together 0 = .ok (.aload 4, 2) := by decide +kernel
theorem dL_together_2 : decode cL_together 2 = .ok (.iconst 0, 1) := by decide +kernel
theorem dL_together_3 : decode cL_together 3 = .ok (.aload_n 0, 1) := by decide +kernel
theorem dL_together_4 : decode cL_together 4 = .ok (.iload_n 1, 1) := by decide +kernel
theorem dL_together_5 : decode cL_together 5 = .ok (.iload_n 2, 1) := by decide +kernel
theorem dL_together_6 : decode cL_together 6 = .ok (.iload_n 3, 1) := by decide +kernel
theorem dL_together_7 : decode cL_together 7 = .ok (.invokevirtual 52, 3) := by decide +kernel
theorem dL_together_10 : decode cL_together 10 = .ok (.i2l, 1) := by decide +kernel
theorem dL_together_11 : decode cL_together 11 = .ok (.lastore, 1) := by decide +kernel
theorem dL_together_12 : decode cL_together 12 = .ok (.goto 11, 3) := by decide +kernel
theorem dL_together_15 : decode cL_together 15 = .ok (.astore 5, 2) := by decide +kernel
theorem dL_together_17 : decode cL_together 17 = .ok (.iconst 1, 1) := by decide +kernel
theorem dL_together_18 : decode cL_together 18 = .ok (.ireturn, 1) := by decide +kernel
theorem dL_together_19 : decode cL_together 19 = .ok (.astore 5, 2) := by decide +kernel
theorem dL_together_21 : decode cL_together 21 = .ok (.iconst 2, 1) := by decide +kernel
theorem dL_together_22 : decode cL_together 22 = .ok (.ireturn, 1) := by decide +kernel
theorem dL_together_23 : decode cL_together 23 = .ok (.iconst 0, 1) := by decide +kernel
theorem dL_together_24 : decode cL_together 24 = .ok (.ireturn, 1) := by decide +kernel
theorem dL_goes_0 : decode cL_goes 0 = .ok (.aload_n 3, 1) := by decide +kernel
theorem dL_goes_1 : decode cL_goes 1 = .ok (.iconst 0, 1) := by decide +kernel
theorem dL_goes_2 : decode cL_goes 2 = .ok (.aload_n 0, 1) := by decide +kernel
theorem dL_goes_3 : decode cL_goes 3 = .ok (.iload_n 1, 1) := by decide +kernel
theorem dL_goes_4 : decode cL_goes 4 = .ok (.iload_n 2, 1) := by decide +kernel
theorem dL_goes_5 : decode cL_goes 5 = .ok (.invokevirtual 55, 3) := by decide +kernel
theorem dL_goes_8 : decode cL_goes 8 = .ok (.i2l, 1) := by decide +kernel
theorem dL_goes_9 : decode cL_goes 9 = .ok (.lastore, 1) := by decide +kernel
theorem dL_goes_10 : decode cL_goes 10 = .ok (.goto 7, 3) := by decide +kernel
theorem dL_goes_13 : decode cL_goes 13 = .ok (.astore 4, 2) := by decide +kernel
theorem dL_goes_15 : decode cL_goes 15 = .ok (.iconst 1, 1) := by decide +kernel
theorem dL_goes_16 : decode cL_goes 16 = .ok (.ireturn, 1) := by decide +kernel
theorem dL_goes_17 : decode cL_goes 17 = .ok (.iconst 0, 1) := by decide +kernel
theorem dL_goes_18 : decode cL_goes 18 = .ok (.ireturn, 1) := by decide +kernel
theorem dL_falls_0 : decode cL_falls 0 = .ok (.aload_n 2, 1) := by decide +kernel
theorem dL_falls_1 : decode cL_falls 1 = .ok (.iconst 0, 1) := by decide +kernel
theorem dL_falls_2 : decode cL_falls 2 = .ok (.aload_n 0, 1) := by decide +kernel
theorem dL_falls_3 : decode cL_falls 3 = .ok (.iload_n 1, 1) := by decide +kernel
theorem dL_falls_4 : decode cL_falls 4 = .ok (.invokevirtual 58, 3) := by decide +kernel
theorem dL_falls_7 : decode cL_falls 7 = .ok (.i2l, 1) := by decide +kernel
theorem dL_falls_8 : decode cL_falls 8 = .ok (.lastore, 1) := by decide +kernel
theorem dL_falls_9 : decode cL_falls 9 = .ok (.goto 6, 3) := by decide +kernel
theorem dL_falls_12 : decode cL_falls 12 = .ok (.astore_n 3, 1) := by decide +kernel
theorem dL_falls_13 : decode cL_falls 13 = .ok (.iconst 1, 1) := by decide +kernel
theorem dL_falls_14 : decode cL_falls 14 = .ok (.ireturn, 1) := by decide +kernel
theorem dL_falls_15 : decode cL_falls 15 = .ok (.iconst 0, 1) := by decide +kernel
theorem dL_falls_16 : decode cL_falls 16 = .ok (.ireturn, 1) := by decide +kernel
theorem dL_who_0 : decode cL_who 0 = .ok (.aload 4, 2) := by decide +kernel
theorem dL_who_2 : decode cL_who 2 = .ok (.iconst 0, 1) := by decide +kernel
theorem dL_who_3 : decode cL_who 3 = .ok (.aload_n 0, 1) := by decide +kernel
theorem dL_who_4 : decode cL_who 4 = .ok (.iload_n 1, 1) := by decide +kernel
theorem dL_who_5 : decode cL_who 5 = .ok (.iload_n 2, 1) := by decide +kernel
theorem dL_who_6 : decode cL_who 6 = .ok (.iload_n 3, 1) := by decide +kernel
theorem dL_who_7 : decode cL_who 7 = .ok (.invokevirtual 61, 3) := by decide +kernel
theorem dL_who_10 : decode cL_who 10 = .ok (.i2l, 1) := by decide +kernel
theorem dL_who_11 : decode cL_who 11 = .ok (.lastore, 1) := by decide +kernel
theorem dL_who_12 : decode cL_who 12 = .ok (.goto 7, 3) := by decide +kernel
theorem dL_who_15 : decode cL_who 15 = .ok (.astore 5, 2) := by decide +kernel
theorem dL_who_17 : decode cL_who 17 = .ok (.iconst 1, 1) := by decide +kernel
theorem dL_who_18 : decode cL_who 18 = .ok (.ireturn, 1) := by decide +kernel
theorem dL_who_19 : decode cL_who 19 = .ok (.iconst 0, 1) := by decide +kernel
theorem dL_who_20 : decode cL_who 20 = .ok (.ireturn, 1) := by decide +kernel
theorem dL_round_0 : decode cL_round 0 = .ok (.aload_n 2, 1) := by decide +kernel
theorem dL_round_1 : decode cL_round 1 = .ok (.iconst 0, 1) := by decide +kernel
theorem dL_round_2 : decode cL_round 2 = .ok (.aload_n 0, 1) := by decide +kernel
theorem dL_round_3 : decode cL_round 3 = .ok (.iload_n 1, 1) := by decide +kernel
theorem dL_round_4 : decode cL_round 4 = .ok (.invokevirtual 64, 3) := by decide +kernel
theorem dL_round_7 : decode cL_round 7 = .ok (.i2l, 1) := by decide +kernel
theorem dL_round_8 : decode cL_round 8 = .ok (.lastore, 1) := by decide +kernel
theorem dL_round_9 : decode cL_round 9 = .ok (.goto 6, 3) := by decide +kernel
theorem dL_round_12 : decode cL_round 12 = .ok (.astore_n 3, 1) := by decide +kernel
theorem dL_round_13 : decode cL_round 13 = .ok (.iconst 1, 1) := by decide +kernel
theorem dL_round_14 : decode cL_round 14 = .ok (.ireturn, 1) := by decide +kernel
theorem dL_round_15 : decode cL_round 15 = .ok (.iconst 0, 1) := by decide +kernel
theorem dL_round_16 : decode cL_round 16 = .ok (.ireturn, 1) := by decide +kernel
theorem dL_known_0 : decode cL_known 0 = .ok (.aload_n 3, 1) := by decide +kernel
theorem dL_known_1 : decode cL_known 1 = .ok (.iconst 0, 1) := by decide +kernel
theorem dL_known_2 : decode cL_known 2 = .ok (.aload_n 0, 1) := by decide +kernel
theorem dL_known_3 : decode cL_known 3 = .ok (.iload_n 1, 1) := by decide +kernel
theorem dL_known_4 : decode cL_known 4 = .ok (.iload_n 2, 1) := by decide +kernel
theorem dL_known_5 : decode cL_known 5 = .ok (.invokevirtual 67, 3) := by decide +kernel
theorem dL_known_8 : decode cL_known 8 = .ok (.i2l, 1) := by decide +kernel
theorem dL_known_9 : decode cL_known 9 = .ok (.lastore, 1) := by decide +kernel
theorem dL_known_10 : decode cL_known 10 = .ok (.goto 11, 3) := by decide +kernel
theorem dL_known_13 : decode cL_known 13 = .ok (.astore 4, 2) := by decide +kernel
theorem dL_known_15 : decode cL_known 15 = .ok (.iconst 1, 1) := by decide +kernel
theorem dL_known_16 : decode cL_known 16 = .ok (.ireturn, 1) := by decide +kernel
theorem dL_known_17 : decode cL_known 17 = .ok (.astore 4, 2) := by decide +kernel
theorem dL_known_19 : decode cL_known 19 = .ok (.iconst 2, 1) := by decide +kernel
theorem dL_known_20 : decode cL_known 20 = .ok (.ireturn, 1) := by decide +kernel
theorem dL_known_21 : decode cL_known 21 = .ok (.iconst 0, 1) := by decide +kernel
theorem dL_known_22 : decode cL_known 22 = .ok (.ireturn, 1) := by decide +kernel
theorem dL_toMeet_0 : decode cL_toMeet 0 = .ok (.aload_n 3, 1) := by decide +kernel
theorem dL_toMeet_1 : decode cL_toMeet 1 = .ok (.iconst 0, 1) := by decide +kernel
theorem dL_toMeet_2 : decode cL_toMeet 2 = .ok (.aload_n 0, 1) := by decide +kernel
theorem dL_toMeet_3 : decode cL_toMeet 3 = .ok (.iload_n 1, 1) := by decide +kernel
theorem dL_toMeet_4 : decode cL_toMeet 4 = .ok (.iload_n 2, 1) := by decide +kernel
theorem dL_toMeet_5 : decode cL_toMeet 5 = .ok (.invokevirtual 70, 3) := by decide +kernel
theorem dL_toMeet_8 : decode cL_toMeet 8 = .ok (.i2l, 1) := by decide +kernel
theorem dL_toMeet_9 : decode cL_toMeet 9 = .ok (.lastore, 1) := by decide +kernel
theorem dL_toMeet_10 : decode cL_toMeet 10 = .ok (.goto 7, 3) := by decide +kernel
theorem dL_toMeet_13 : decode cL_toMeet 13 = .ok (.astore 4, 2) := by decide +kernel
theorem dL_toMeet_15 : decode cL_toMeet 15 = .ok (.iconst 1, 1) := by decide +kernel
theorem dL_toMeet_16 : decode cL_toMeet 16 = .ok (.ireturn, 1) := by decide +kernel
theorem dL_toMeet_17 : decode cL_toMeet 17 = .ok (.iconst 0, 1) := by decide +kernel
theorem dL_toMeet_18 : decode cL_toMeet 18 = .ok (.ireturn, 1) := by decide +kernel
theorem dL_partners_0 : decode cL_partners 0 = .ok (.aload_n 2, 1) := by decide +kernel
theorem dL_partners_1 : decode cL_partners 1 = .ok (.iconst 0, 1) := by decide +kernel
theorem dL_partners_2 : decode cL_partners 2 = .ok (.aload_n 0, 1) := by decide +kernel
theorem dL_partners_3 : decode cL_partners 3 = .ok (.iload_n 1, 1) := by decide +kernel
theorem dL_partners_4 : decode cL_partners 4 = .ok (.invokevirtual 73, 3) := by decide +kernel
theorem dL_partners_7 : decode cL_partners 7 = .ok (.i2l, 1) := by decide +kernel
theorem dL_partners_8 : decode cL_partners 8 = .ok (.lastore, 1) := by decide +kernel
theorem dL_partners_9 : decode cL_partners 9 = .ok (.goto 6, 3) := by decide +kernel
theorem dL_partners_12 : decode cL_partners 12 = .ok (.astore_n 3, 1) := by decide +kernel
theorem dL_partners_13 : decode cL_partners 13 = .ok (.iconst 1, 1) := by decide +kernel
theorem dL_partners_14 : decode cL_partners 14 = .ok (.ireturn, 1) := by decide +kernel
theorem dL_partners_15 : decode cL_partners 15 = .ok (.iconst 0, 1) := by decide +kernel
theorem dL_partners_16 : decode cL_partners 16 = .ok (.ireturn, 1) := by decide +kernel
theorem dL_halves_0 : decode cL_halves 0 = .ok (.aload_n 2, 1) := by decide +kernel
theorem dL_halves_1 : decode cL_halves 1 = .ok (.iconst 0, 1) := by decide +kernel
theorem dL_halves_2 : decode cL_halves 2 = .ok (.aload_n 0, 1) := by decide +kernel
theorem dL_halves_3 : decode cL_halves 3 = .ok (.iload_n 1, 1) := by decide +kernel
theorem dL_halves_4 : decode cL_halves 4 = .ok (.invokevirtual 76, 3) := by decide +kernel
theorem dL_halves_7 : decode cL_halves 7 = .ok (.i2l, 1) := by decide +kernel
theorem dL_halves_8 : decode cL_halves 8 = .ok (.lastore, 1) := by decide +kernel
theorem dL_halves_9 : decode cL_halves 9 = .ok (.goto 6, 3) := by decide +kernel
theorem dL_halves_12 : decode cL_halves 12 = .ok (.astore_n 3, 1) := by decide +kernel
theorem dL_halves_13 : decode cL_halves 13 = .ok (.iconst 1, 1) := by decide +kernel
theorem dL_halves_14 : decode cL_halves 14 = .ok (.ireturn, 1) := by decide +kernel
theorem dL_halves_15 : decode cL_halves 15 = .ok (.iconst 0, 1) := by decide +kernel
theorem dL_halves_16 : decode cL_halves 16 = .ok (.ireturn, 1) := by decide +kernel
theorem dL_chain_0 : decode cL_chain 0 = .ok (.aload_n 3, 1) := by decide +kernel
theorem dL_chain_1 : decode cL_chain 1 = .ok (.iconst 0, 1) := by decide +kernel
theorem dL_chain_2 : decode cL_chain 2 = .ok (.aload_n 0, 1) := by decide +kernel
theorem dL_chain_3 : decode cL_chain 3 = .ok (.iload_n 1, 1) := by decide +kernel
theorem dL_chain_4 : decode cL_chain 4 = .ok (.iload_n 2, 1) := by decide +kernel
theorem dL_chain_5 : decode cL_chain 5 = .ok (.invokevirtual 79, 3) := by decide +kernel
theorem dL_chain_8 : decode cL_chain 8 = .ok (.i2l, 1) := by decide +kernel
theorem dL_chain_9 : decode cL_chain 9 = .ok (.lastore, 1) := by decide +kernel
theorem dL_chain_10 : decode cL_chain 10 = .ok (.goto 7, 3) := by decide +kernel
theorem dL_chain_13 : decode cL_chain 13 = .ok (.astore 4, 2) := by decide +kernel
theorem dL_chain_15 : decode cL_chain 15 = .ok (.iconst 1, 1) := by decide +kernel
theorem dL_chain_16 : decode cL_chain 16 = .ok (.ireturn, 1) := by decide +kernel
theorem dL_chain_17 : decode cL_chain 17 = .ok (.iconst 0, 1) := by decide +kernel
theorem dL_chain_18 : decode cL_chain 18 = .ok (.ireturn, 1) := by decide +kernel
theorem dL_see_0 : decode cL_see 0 = .ok (.aload 4, 2) := by decide +kernel
theorem dL_see_2 : decode cL_see 2 = .ok (.iconst 0, 1) := by decide +kernel
theorem dL_see_3 : decode cL_see 3 = .ok (.aload_n 0, 1) := by decide +kernel
theorem dL_see_4 : decode cL_see 4 = .ok (.iload_n 1, 1) := by decide +kernel
theorem dL_see_5 : decode cL_see 5 = .ok (.iload_n 2, 1) := by decide +kernel
theorem dL_see_6 : decode cL_see 6 = .ok (.iload_n 3, 1) := by decide +kernel
theorem dL_see_7 : decode cL_see 7 = .ok (.invokevirtual 82, 3) := by decide +kernel
theorem dL_see_10 : decode cL_see 10 = .ok (.i2l, 1) := by decide +kernel
theorem dL_see_11 : decode cL_see 11 = .ok (.lastore, 1) := by decide +kernel
theorem dL_see_12 : decode cL_see 12 = .ok (.goto 7, 3) := by decide +kernel
theorem dL_see_15 : decode cL_see 15 = .ok (.astore 5, 2) := by decide +kernel
theorem dL_see_17 : decode cL_see 17 = .ok (.iconst 1, 1) := by decide +kernel
theorem dL_see_18 : decode cL_see 18 = .ok (.ireturn, 1) := by decide +kernel
theorem dL_see_19 : decode cL_see 19 = .ok (.iconst 0, 1) := by decide +kernel
theorem dL_see_20 : decode cL_see 20 = .ok (.ireturn, 1) := by decide +kernel
theorem dL_ranked_0 : decode cL_ranked 0 = .ok (.aload_n 2, 1) := by decide +kernel
theorem dL_ranked_1 : decode cL_ranked 1 = .ok (.iconst 0, 1) := by decide +kernel
theorem dL_ranked_2 : decode cL_ranked 2 = .ok (.aload_n 0, 1) := by decide +kernel
theorem dL_ranked_3 : decode cL_ranked 3 = .ok (.iload_n 1, 1) := by decide +kernel
theorem dL_ranked_4 : decode cL_ranked 4 = .ok (.invokevirtual 85, 3) := by decide +kernel
theorem dL_ranked_7 : decode cL_ranked 7 = .ok (.i2l, 1) := by decide +kernel
theorem dL_ranked_8 : decode cL_ranked 8 = .ok (.lastore, 1) := by decide +kernel
theorem dL_ranked_9 : decode cL_ranked 9 = .ok (.goto 6, 3) := by decide +kernel
theorem dL_ranked_12 : decode cL_ranked 12 = .ok (.astore_n 3, 1) := by decide +kernel
theorem dL_ranked_13 : decode cL_ranked 13 = .ok (.iconst 1, 1) := by decide +kernel
theorem dL_ranked_14 : decode cL_ranked 14 = .ok (.ireturn, 1) := by decide +kernel
theorem dL_ranked_15 : decode cL_ranked 15 = .ok (.iconst 0, 1) := by decide +kernel
theorem dL_ranked_16 : decode cL_ranked 16 = .ok (.ireturn, 1) := by decide +kernel
theorem dL_look_0 : decode cL_look 0 = .ok (.aload_n 2, 1) := by decide +kernel
theorem dL_look_1 : decode cL_look 1 = .ok (.iconst 0, 1) := by decide +kernel
theorem dL_look_2 : decode cL_look 2 = .ok (.aload_n 0, 1) := by decide +kernel
theorem dL_look_3 : decode cL_look 3 = .ok (.iload_n 1, 1) := by decide +kernel
theorem dL_look_4 : decode cL_look 4 = .ok (.invokevirtual 88, 3) := by decide +kernel
theorem dL_look_7 : decode cL_look 7 = .ok (.i2l, 1) := by decide +kernel
theorem dL_look_8 : decode cL_look 8 = .ok (.lastore, 1) := by decide +kernel
theorem dL_look_9 : decode cL_look 9 = .ok (.goto 6, 3) := by decide +kernel
theorem dL_look_12 : decode cL_look 12 = .ok (.astore_n 3, 1) := by decide +kernel
theorem dL_look_13 : decode cL_look 13 = .ok (.iconst 1, 1) := by decide +kernel
theorem dL_look_14 : decode cL_look 14 = .ok (.ireturn, 1) := by decide +kernel
theorem dL_look_15 : decode cL_look 15 = .ok (.iconst 0, 1) := by decide +kernel
theorem dL_look_16 : decode cL_look 16 = .ok (.ireturn, 1) := by decide +kernel
theorem dL_storms_0 : decode cL_storms 0 = .ok (.aload 5, 2) := by decide +kernel
theorem dL_storms_2 : decode cL_storms 2 = .ok (.iconst 0, 1) := by decide +kernel
theorem dL_storms_3 : decode cL_storms 3 = .ok (.aload_n 0, 1) := by decide +kernel
theorem dL_storms_4 : decode cL_storms 4 = .ok (.iload_n 1, 1) := by decide +kernel
theorem dL_storms_5 : decode cL_storms 5 = .ok (.iload_n 2, 1) := by decide +kernel
theorem dL_storms_6 : decode cL_storms 6 = .ok (.iload_n 3, 1) := by decide +kernel
theorem dL_storms_7 : decode cL_storms 7 = .ok (.iload 4, 2) := by decide +kernel
theorem dL_storms_9 : decode cL_storms 9 = .ok (.invokevirtual 91, 3) := by decide +kernel
theorem dL_storms_12 : decode cL_storms 12 = .ok (.i2l, 1) := by decide +kernel
theorem dL_storms_13 : decode cL_storms 13 = .ok (.lastore, 1) := by decide +kernel
theorem dL_storms_14 : decode cL_storms 14 = .ok (.goto 11, 3) := by decide +kernel
theorem dL_storms_17 : decode cL_storms 17 = .ok (.astore 6, 2) := by decide +kernel
theorem dL_storms_19 : decode cL_storms 19 = .ok (.iconst 1, 1) := by decide +kernel
theorem dL_storms_20 : decode cL_storms 20 = .ok (.ireturn, 1) := by decide +kernel
theorem dL_storms_21 : decode cL_storms 21 = .ok (.astore 6, 2) := by decide +kernel
theorem dL_storms_23 : decode cL_storms 23 = .ok (.iconst 2, 1) := by decide +kernel
theorem dL_storms_24 : decode cL_storms 24 = .ok (.ireturn, 1) := by decide +kernel
theorem dL_storms_25 : decode cL_storms 25 = .ok (.iconst 0, 1) := by decide +kernel
theorem dL_storms_26 : decode cL_storms 26 = .ok (.ireturn, 1) := by decide +kernel
theorem dL_game_0 : decode cL_game 0 = .ok (.aload 4, 2) := by decide +kernel
theorem dL_game_2 : decode cL_game 2 = .ok (.iconst 0, 1) := by decide +kernel
theorem dL_game_3 : decode cL_game 3 = .ok (.aload_n 0, 1) := by decide +kernel
theorem dL_game_4 : decode cL_game 4 = .ok (.iload_n 1, 1) := by decide +kernel
theorem dL_game_5 : decode cL_game 5 = .ok (.iload_n 2, 1) := by decide +kernel
theorem dL_game_6 : decode cL_game 6 = .ok (.iload_n 3, 1) := by decide +kernel
theorem dL_game_7 : decode cL_game 7 = .ok (.invokevirtual 95, 3) := by decide +kernel
theorem dL_game_10 : decode cL_game 10 = .ok (.i2l, 1) := by decide +kernel
theorem dL_game_11 : decode cL_game 11 = .ok (.lastore, 1) := by decide +kernel
theorem dL_game_12 : decode cL_game 12 = .ok (.goto 11, 3) := by decide +kernel
theorem dL_game_15 : decode cL_game 15 = .ok (.astore 5, 2) := by decide +kernel
theorem dL_game_17 : decode cL_game 17 = .ok (.iconst 1, 1) := by decide +kernel
theorem dL_game_18 : decode cL_game 18 = .ok (.ireturn, 1) := by decide +kernel
theorem dL_game_19 : decode cL_game 19 = .ok (.astore 5, 2) := by decide +kernel
theorem dL_game_21 : decode cL_game 21 = .ok (.iconst 2, 1) := by decide +kernel
theorem dL_game_22 : decode cL_game 22 = .ok (.ireturn, 1) := by decide +kernel
theorem dL_game_23 : decode cL_game 23 = .ok (.iconst 0, 1) := by decide +kernel
theorem dL_game_24 : decode cL_game 24 = .ok (.ireturn, 1) := by decide +kernel
theorem dL_years_0 : decode cL_years 0 = .ok (.aload 4, 2) := by decide +kernel
theorem dL_years_2 : decode cL_years 2 = .ok (.iconst 0, 1) := by decide +kernel
theorem dL_years_3 : decode cL_years 3 = .ok (.aload_n 0, 1) := by decide +kernel
theorem dL_years_4 : decode cL_years 4 = .ok (.iload_n 1, 1) := by decide +kernel
theorem dL_years_5 : decode cL_years 5 = .ok (.iload_n 2, 1) := by decide +kernel
theorem dL_years_6 : decode cL_years 6 = .ok (.iload_n 3, 1) := by decide +kernel
theorem dL_years_7 : decode cL_years 7 = .ok (.invokevirtual 98, 3) := by decide +kernel
theorem dL_years_10 : decode cL_years 10 = .ok (.i2l, 1) := by decide +kernel
theorem dL_years_11 : decode cL_years 11 = .ok (.lastore, 1) := by decide +kernel
theorem dL_years_12 : decode cL_years 12 = .ok (.goto 11, 3) := by decide +kernel
theorem dL_years_15 : decode cL_years 15 = .ok (.astore 5, 2) := by decide +kernel
theorem dL_years_17 : decode cL_years 17 = .ok (.iconst 1, 1) := by decide +kernel
theorem dL_years_18 : decode cL_years 18 = .ok (.ireturn, 1) := by decide +kernel
theorem dL_years_19 : decode cL_years 19 = .ok (.astore 5, 2) := by decide +kernel
theorem dL_years_21 : decode cL_years 21 = .ok (.iconst 2, 1) := by decide +kernel
theorem dL_years_22 : decode cL_years 22 = .ok (.ireturn, 1) := by decide +kernel
theorem dL_years_23 : decode cL_years 23 = .ok (.iconst 0, 1) := by decide +kernel
theorem dL_years_24 : decode cL_years 24 = .ok (.ireturn, 1) := by decide +kernel
theorem dL_ahead_0 : decode cL_ahead 0 = .ok (.aload_n 3, 1) := by decide +kernel
theorem dL_ahead_1 : decode cL_ahead 1 = .ok (.iconst 0, 1) := by decide +kernel
theorem dL_ahead_2 : decode cL_ahead 2 = .ok (.aload_n 0, 1) := by decide +kernel
theorem dL_ahead_3 : decode cL_ahead 3 = .ok (.iload_n 1, 1) := by decide +kernel
theorem dL_ahead_4 : decode cL_ahead 4 = .ok (.iload_n 2, 1) := by decide +kernel
theorem dL_ahead_5 : decode cL_ahead 5 = .ok (.invokevirtual 101, 3) := by decide +kernel
theorem dL_ahead_8 : decode cL_ahead 8 = .ok (.i2l, 1) := by decide +kernel
theorem dL_ahead_9 : decode cL_ahead 9 = .ok (.lastore, 1) := by decide +kernel
theorem dL_ahead_10 : decode cL_ahead 10 = .ok (.goto 11, 3) := by decide +kernel
theorem dL_ahead_13 : decode cL_ahead 13 = .ok (.astore 4, 2) := by decide +kernel
theorem dL_ahead_15 : decode cL_ahead 15 = .ok (.iconst 1, 1) := by decide +kernel
theorem dL_ahead_16 : decode cL_ahead 16 = .ok (.ireturn, 1) := by decide +kernel
theorem dL_ahead_17 : decode cL_ahead 17 = .ok (.astore 4, 2) := by decide +kernel
theorem dL_ahead_19 : decode cL_ahead 19 = .ok (.iconst 2, 1) := by decide +kernel
theorem dL_ahead_20 : decode cL_ahead 20 = .ok (.ireturn, 1) := by decide +kernel
theorem dL_ahead_21 : decode cL_ahead 21 = .ok (.iconst 0, 1) := by decide +kernel
theorem dL_ahead_22 : decode cL_ahead 22 = .ok (.ireturn, 1) := by decide +kernel
