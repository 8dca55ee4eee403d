theorem dX12_meet_74 : decode cX12_meet 74 = .ok (.iload 4, 2) := by decide +kernel
theorem dX12_meet_76 : decode cX12_meet 76 = .ok (.ireturn, 1) := by decide +kernel
theorem dX12_together_0 : decode cX12_together 0 = .ok (.aload_n 0, 1) := by decide +kernel
theorem dX12_together_1 : decode cX12_together 1 = .ok (.iconst 0, 1) := by decide +kernel
theorem dX12_together_2 : decode cX12_together 2 = .ok (.putfield 96, 3) := by decide +kernel
theorem dX12_together_5 : decode cX12_together 5 = .ok (.aload_n 0, 1) := by decide +kernel
theorem dX12_together_6 : decode cX12_together 6 = .ok (.iload_n 1, 1) := by decide +kernel
theorem dX12_together_7 : decode cX12_together 7 = .ok (.invokevirtual 368, 3) := by decide +kernel
theorem dX12_together_10 : decode cX12_together 10 = .ok (.ifCond .eq 21, 3) := by decide +kernel
theorem dX12_together_13 : decode cX12_together 13 = .ok (.aload_n 0, 1) := by decide +kernel
theorem dX12_together_14 : decode cX12_together 14 = .ok (.iload_n 2, 1) := by decide +kernel
theorem dX12_together_15 : decode cX12_together 15 = .ok (.invokevirtual 368, 3) := by decide +kernel
theorem dX12_together_18 : decode cX12_together 18 = .ok (.ifCond .eq 13, 3) := by decide +kernel
theorem dX12_together_21 : decode cX12_together 21 = .ok (.aload_n 0, 1) := by decide +kernel
theorem dX12_together_22 : decode cX12_together 22 = .ok (.iload_n 3, 1) := by decide +kernel
theorem dX12_together_23 : decode cX12_together 23 = .ok (.iconst 1, 1) := by decide +kernel
theorem dX12_together_24 : decode cX12_together 24 = .ok (.iconst 2, 1) := by decide +kernel
theorem dX12_together_25 : decode cX12_together 25 = .ok (.invokevirtual 402, 3) := by decide +kernel
theorem dX12_together_28 : decode cX12_together 28 = .ok (.ifCond .ne 5, 3) := by decide +kernel
theorem dX12_together_31 : decode cX12_together 31 = .ok (.iconst 0, 1) := by decide +kernel
theorem dX12_together_32 : decode cX12_together 32 = .ok (.ireturn, 1) := by decide +kernel
theorem dX12_together_33 : decode cX12_together 33 = .ok (.iconst 0, 1) := by decide +kernel
theorem dX12_together_34 : decode cX12_together 34 = .ok (.istore 4, 2) := by decide +kernel
theorem dX12_together_36 : decode cX12_together 36 = .ok (.aload_n 0, 1) := by decide +kernel
theorem dX12_together_37 : decode cX12_together 37 = .ok (.invokevirtual 337, 3) := by decide +kernel
theorem dX12_together_40 : decode cX12_together 40 = .ok (.iconst 0, 1) := by decide +kernel
theorem dX12_together_41 : decode cX12_together 41 = .ok (.istore 5, 2) := by decide +kernel
theorem dX12_together_43 : decode cX12_together 43 = .ok (.iload 5, 2) := by decide +kernel
theorem dX12_together_45 : decode cX12_together 45 = .ok (.iload_n 3, 1) := by decide +kernel
theorem dX12_together_46 : decode cX12_together 46 = .ok (.if_icmp .ge 34, 3) := by decide +kernel
theorem dX12_together_49 : decode cX12_together 49 = .ok (.aload_n 0, 1) := by decide +kernel
theorem dX12_together_50 : decode cX12_together 50 = .ok (.bipush 86, 2) := by decide +kernel
theorem dX12_together_52 : decode cX12_together 52 = .ok (.invokevirtual 334, 3) := by decide +kernel
theorem dX12_together_55 : decode cX12_together 55 = .ok (.iload 4, 2) := by decide +kernel
theorem dX12_together_57 : decode cX12_together 57 = .ok (.aload_n 0, 1) := by decide +kernel
theorem dX12_together_58 : decode cX12_together 58 = .ok (.iload_n 1, 1) := by decide +kernel
theorem dX12_together_59 : decode cX12_together 59 = .ok (.iload_n 2, 1) := by decide +kernel
theorem dX12_together_60 : decode cX12_together 60 = .ok (.invokevirtual 408, 3) := by decide +kernel
theorem dX12_together_63 : decode cX12_together 63 = .ok (.ifCond .eq 7, 3) := by decide +kernel
theorem dX12_together_66 : decode cX12_together 66 = .ok (.iconst 1, 1) := by decide +kernel
theorem dX12_together_67 : decode cX12_together 67 = .ok (.goto 4, 3) := by decide +kernel
theorem dX12_together_70 : decode cX12_together 70 = .ok (.iconst 0, 1) := by decide +kernel
theorem dX12_together_71 : decode cX12_together 71 = .ok (.iadd, 1) := by decide +kernel
theorem dX12_together_72 : decode cX12_together 72 = .ok (.istore 4, 2) := by decide +kernel
theorem dX12_together_74 : decode cX12_together 74 = .ok (.iinc 5 1, 3) := by decide +kernel
theorem dX12_together_77 : decode cX12_together 77 = .ok (.goto (-34), 3) := by decide +kernel
theorem dX12_together_80 : decode cX12_together 80 = .ok (.iload 4, 2) := by decide +kernel
theorem dX12_together_82 : decode cX12_together 82 = .ok (.ireturn, 1) := by decide +kernel
theorem dX12_goes_0 : decode cX12_goes 0 = .ok (.aload_n 0, 1) := by decide +kernel
theorem dX12_goes_1 : decode cX12_goes 1 = .ok (.iconst 0, 1) := by decide +kernel
theorem dX12_goes_2 : decode cX12_goes 2 = .ok (.putfield 96, 3) := by decide +kernel
theorem dX12_goes_5 : decode cX12_goes 5 = .ok (.aload_n 0, 1) := by decide +kernel
theorem dX12_goes_6 : decode cX12_goes 6 = .ok (.iload_n 1, 1) := by decide +kernel
theorem dX12_goes_7 : decode cX12_goes 7 = .ok (.invokevirtual 368, 3) := by decide +kernel
theorem dX12_goes_10 : decode cX12_goes 10 = .ok (.ifCond .eq 12, 3) := by decide +kernel
theorem dX12_goes_13 : decode cX12_goes 13 = .ok (.aload_n 0, 1) := by decide +kernel
theorem dX12_goes_14 : decode cX12_goes 14 = .ok (.iload_n 2, 1) := by decide +kernel
theorem dX12_goes_15 : decode cX12_goes 15 = .ok (.iconst 1, 1) := by decide +kernel
theorem dX12_goes_16 : decode cX12_goes 16 = .ok (.invokevirtual 371, 3) := by decide +kernel
theorem dX12_goes_19 : decode cX12_goes 19 = .ok (.ifCond .ne 5, 3) := by decide +kernel
theorem dX12_goes_22 : decode cX12_goes 22 = .ok (.iconst 0, 1) := by decide +kernel
theorem dX12_goes_23 : decode cX12_goes 23 = .ok (.ireturn, 1) := by decide +kernel
theorem dX12_goes_24 : decode cX12_goes 24 = .ok (.iconst (-1), 1) := by decide +kernel
theorem dX12_goes_25 : decode cX12_goes 25 = .ok (.istore_n 3, 1) := by decide +kernel
theorem dX12_goes_26 : decode cX12_goes 26 = .ok (.iconst 0, 1) := by decide +kernel
theorem dX12_goes_27 : decode cX12_goes 27 = .ok (.istore 4, 2) := by decide +kernel
theorem dX12_goes_29 : decode cX12_goes 29 = .ok (.iconst 0, 1) := by decide +kernel
theorem dX12_goes_30 : decode cX12_goes 30 = .ok (.istore 5, 2) := by decide +kernel
theorem dX12_goes_32 : decode cX12_goes 32 = .ok (.aload_n 0, 1) := by decide +kernel
theorem dX12_goes_33 : decode cX12_goes 33 = .ok (.invokevirtual 337, 3) := by decide +kernel
theorem dX12_goes_36 : decode cX12_goes 36 = .ok (.iconst 1, 1) := by decide +kernel
theorem dX12_goes_37 : decode cX12_goes 37 = .ok (.istore 6, 2) := by decide +kernel
theorem dX12_goes_39 : decode cX12_goes 39 = .ok (.iload 6, 2) := by decide +kernel
theorem dX12_goes_41 : decode cX12_goes 41 = .ok (.bipush 100, 2) := by decide +kernel
theorem dX12_goes_43 : decode cX12_goes 43 = .ok (.if_icmp .gt 78, 3) := by decide +kernel
theorem dX12_goes_46 : decode cX12_goes 46 = .ok (.aload_n 0, 1) := by decide +kernel
theorem dX12_goes_47 : decode cX12_goes 47 = .ok (.bipush 86, 2) := by decide +kernel
theorem dX12_goes_49 : decode cX12_goes 49 = .ok (.invokevirtual 334, 3) := by decide +kernel
theorem dX12_goes_52 : decode cX12_goes 52 = .ok (.aload_n 0, 1) := by decide +kernel
theorem dX12_goes_53 : decode cX12_goes 53 = .ok (.getfield 322, 3) := by decide +kernel
theorem dX12_goes_56 : decode cX12_goes 56 = .ok (.iload_n 1, 1) := by decide +kernel
theorem dX12_goes_57 : decode cX12_goes 57 = .ok (.ishr, 1) := by decide +kernel
theorem dX12_goes_58 : decode cX12_goes 58 = .ok (.iconst 1, 1) := by decide +kernel
theorem dX12_goes_59 : decode cX12_goes 59 = .ok (.iand, 1) := by decide +kernel
theorem dX12_goes_60 : decode cX12_goes 60 = .ok (.iconst 1, 1) := by decide +kernel
theorem dX12_goes_61 : decode cX12_goes 61 = .ok (.if_icmp .ne 7, 3) := by decide +kernel
theorem dX12_goes_64 : decode cX12_goes 64 = .ok (.iconst 1, 1) := by decide +kernel
theorem dX12_goes_65 : decode cX12_goes 65 = .ok (.goto 4, 3) := by decide +kernel
theorem dX12_goes_68 : decode cX12_goes 68 = .ok (.iconst 0, 1) := by decide +kernel
theorem dX12_goes_69 : decode cX12_goes 69 = .ok (.istore 7, 2) := by decide +kernel
theorem dX12_goes_71 : decode cX12_goes 71 = .ok (.iload 7, 2) := by decide +kernel
theorem dX12_goes_73 : decode cX12_goes 73 = .ok (.ifCond .eq 11, 3) := by decide +kernel
theorem dX12_goes_76 : decode cX12_goes 76 = .ok (.iload_n 3, 1) := by decide +kernel
theorem dX12_goes_77 : decode cX12_goes 77 = .ok (.iconst (-1), 1) := by decide +kernel
theorem dX12_goes_78 : decode cX12_goes 78 = .ok (.if_icmp .ne 6, 3) := by decide +kernel
theorem dX12_goes_81 : decode cX12_goes 81 = .ok (.iload 6, 2) := by decide +kernel
theorem dX12_goes_83 : decode cX12_goes 83 = .ok (.istore_n 3, 1) := by decide +kernel
theorem dX12_goes_84 : decode cX12_goes 84 = .ok (.iload 7, 2) := by decide +kernel
theorem dX12_goes_86 : decode cX12_goes 86 = .ok (.ifCond .eq 7, 3) := by decide +kernel
theorem dX12_goes_89 : decode cX12_goes 89 = .ok (.iconst 0, 1) := by decide +kernel
theorem dX12_goes_90 : decode cX12_goes 90 = .ok (.goto 7, 3) := by decide +kernel
theorem dX12_goes_93 : decode cX12_goes 93 = .ok (.iload 5, 2) := by decide +kernel
theorem dX12_goes_95 : decode cX12_goes 95 = .ok (.iconst 1, 1) := by decide +kernel
theorem dX12_goes_96 : decode cX12_goes 96 = .ok (.iadd, 1) := by decide +kernel
theorem dX12_goes_97 : decode cX12_goes 97 = .ok (.istore 5, 2) := by decide +kernel
theorem dX12_goes_99 : decode cX12_goes 99 = .ok (.iload 5, 2) := by decide +kernel
theorem dX12_goes_101 : decode cX12_goes 101 = .ok (.iload 4, 2) := by decide +kernel
theorem dX12_goes_103 : decode cX12_goes 103 = .ok (.if_icmp .le 8, 3) := by decide +kernel
theorem dX12_goes_106 : decode cX12_goes 106 = .ok (.iload 5, 2) := by decide +kernel
theorem dX12_goes_108 : decode cX12_goes 108 = .ok (.goto 5, 3) := by decide +kernel
theorem dX12_goes_111 : decode cX12_goes 111 = .ok (.iload 4, 2) := by decide +kernel
theorem dX12_goes_113 : decode cX12_goes 113 = .ok (.istore 4, 2) := by decide +kernel
theorem dX12_goes_115 : decode cX12_goes 115 = .ok (.iinc 6 1, 3) := by decide +kernel
theorem dX12_goes_118 : decode cX12_goes 118 = .ok (.goto (-79), 3) := by decide +kernel
theorem dX12_goes_121 : decode cX12_goes 121 = .ok (.iload_n 2, 1) := by decide +kernel
theorem dX12_goes_122 : decode cX12_goes 122 = .ok (.ifCond .ne 7, 3) := by decide +kernel
theorem dX12_goes_125 : decode cX12_goes 125 = .ok (.iload_n 3, 1) := by decide +kernel
theorem dX12_goes_126 : decode cX12_goes 126 = .ok (.goto 5, 3) := by decide +kernel
theorem dX12_goes_129 : decode cX12_goes 129 = .ok (.iload 4, 2) := by decide +kernel
theorem dX12_goes_131 : decode cX12_goes 131 = .ok (.ireturn, 1) := by decide +kernel
theorem dX12_falls_0 : decode cX12_falls 0 = .ok (.aload_n 0, 1) := by decide +kernel
theorem dX12_falls_1 : decode cX12_falls 1 = .ok (.iconst 0, 1) := by decide +kernel
theorem dX12_falls_2 : decode cX12_falls 2 = .ok (.putfield 96, 3) := by decide +kernel
theorem dX12_falls_5 : decode cX12_falls 5 = .ok (.aload_n 0, 1) := by decide +kernel
theorem dX12_falls_6 : decode cX12_falls 6 = .ok (.iload_n 1, 1) := by decide +kernel
theorem dX12_falls_7 : decode cX12_falls 7 = .ok (.invokevirtual 383, 3) := by decide +kernel
theorem dX12_falls_10 : decode cX12_falls 10 = .ok (.ifCond .ne 5, 3) := by decide +kernel
theorem dX12_falls_13 : decode cX12_falls 13 = .ok (.iconst 0, 1) := by decide +kernel
theorem dX12_falls_14 : decode cX12_falls 14 = .ok (.ireturn, 1) := by decide +kernel
theorem dX12_falls_15 : decode cX12_falls 15 = .ok (.aload_n 0, 1) := by decide +kernel
theorem dX12_falls_16 : decode cX12_falls 16 = .ok (.invokevirtual 337, 3) := by decide +kernel
theorem dX12_falls_19 : decode cX12_falls 19 = .ok (.iconst 1, 1) := by decide +kernel
theorem dX12_falls_20 : decode cX12_falls 20 = .ok (.istore_n 2, 1) := by decide +kernel
theorem dX12_falls_21 : decode cX12_falls 21 = .ok (.iload_n 2, 1) := by decide +kernel
theorem dX12_falls_22 : decode cX12_falls 22 = .ok (.bipush 100, 2) := by decide +kernel
theorem dX12_falls_24 : decode cX12_falls 24 = .ok (.if_icmp .gt 69, 3) := by decide +kernel
theorem dX12_falls_27 : decode cX12_falls 27 = .ok (.aload_n 0, 1) := by decide +kernel
theorem dX12_falls_28 : decode cX12_falls 28 = .ok (.bipush 86, 2) := by decide +kernel
theorem dX12_falls_30 : decode cX12_falls 30 = .ok (.invokevirtual 334, 3) := by decide +kernel
theorem dX12_falls_33 : decode cX12_falls 33 = .ok (.iconst 0, 1) := by decide +kernel
theorem dX12_falls_34 : decode cX12_falls 34 = .ok (.istore_n 3, 1) := by decide +kernel
theorem dX12_falls_35 : decode cX12_falls 35 = .ok (.iconst 0, 1) := by decide +kernel
theorem dX12_falls_36 : decode cX12_falls 36 = .ok (.istore 4, 2) := by decide +kernel
theorem dX12_falls_38 : decode cX12_falls 38 = .ok (.iload 4, 2) := by decide +kernel
theorem dX12_falls_40 : decode cX12_falls 40 = .ok (.aload_n 0, 1) := by decide +kernel
theorem dX12_falls_41 : decode cX12_falls 41 = .ok (.getfield 48, 3) := by decide +kernel
theorem dX12_falls_44 : decode cX12_falls 44 = .ok (.bipush 87, 2) := by decide +kernel
theorem dX12_falls_46 : decode cX12_falls 46 = .ok (.iaload, 1) := by decide +kernel
theorem dX12_falls_47 : decode cX12_falls 47 = .ok (.if_icmp .ge 34, 3) := by decide +kernel
theorem dX12_falls_50 : decode cX12_falls 50 = .ok (.iload_n 3, 1) := by decide +kernel
theorem dX12_falls_51 : decode cX12_falls 51 = .ok (.ifCond .ne 18, 3) := by decide +kernel
theorem dX12_falls_54 : decode cX12_falls 54 = .ok (.aload_n 0, 1) := by decide +kernel
theorem dX12_falls_55 : decode cX12_falls 55 = .ok (.getfield 48, 3) := by decide +kernel
theorem dX12_falls_58 : decode cX12_falls 58 = .ok (.sipush 160, 3) := by decide +kernel
theorem dX12_falls_61 : decode cX12_falls 61 = .ok (.iload 4, 2) := by decide +kernel
theorem dX12_falls_63 : decode cX12_falls 63 = .ok (.iadd, 1) := by decide +kernel
theorem dX12_falls_64 : decode cX12_falls 64 = .ok (.iaload, 1) := by decide +kernel
theorem dX12_falls_65 : decode cX12_falls 65 = .ok (.iload_n 1, 1) := by decide +kernel
theorem dX12_falls_66 : decode cX12_falls 66 = .ok (.if_icmp .ne 7, 3) := by decide +kernel
theorem dX12_falls_69 : decode cX12_falls 69 = .ok (.iconst 1, 1) := by decide +kernel
theorem dX12_falls_70 : decode cX12_falls 70 = .ok (.goto 4, 3) := by decide +kernel
theorem dX12_falls_73 : decode cX12_falls 73 = .ok (.iconst 0, 1) := by decide +kernel
theorem dX12_falls_74 : decode cX12_falls 74 = .ok (.istore_n 3, 1) := by decide +kernel
theorem dX12_falls_75 : decode cX12_falls 75 = .ok (.iinc 4 1, 3) := by decide +kernel
theorem dX12_falls_78 : decode cX12_falls 78 = .ok (.goto (-40), 3) := by decide +kernel
theorem dX12_falls_81 : decode cX12_falls 81 = .ok (.iload_n 3, 1) := by decide +kernel
theorem dX12_falls_82 : decode cX12_falls 82 = .ok (.ifCond .ne 5, 3) := by decide +kernel
theorem dX12_falls_85 : decode cX12_falls 85 = .ok (.iload_n 2, 1) := by decide +kernel
theorem dX12_falls_86 : decode cX12_falls 86 = .ok (.ireturn, 1) := by decide +kernel
theorem dX12_falls_87 : decode cX12_falls 87 = .ok (.iinc 2 1, 3) := by decide +kernel
theorem dX12_falls_90 : decode cX12_falls 90 = .ok (.goto (-69), 3) := by decide +kernel
theorem dX12_falls_93 : decode cX12_falls 93 = .ok (.iconst (-1), 1) := by decide +kernel
theorem dX12_falls_94 : decode cX12_falls 94 = .ok (.ireturn, 1) := by decide +kernel
theorem dX12_who_0 : decode cX12_who 0 = .ok (.aload_n 0, 1) := by decide +kernel
theorem dX12_who_1 : decode cX12_who 1 = .ok (.iconst 0, 1) := by decide +kernel
theorem dX12_who_2 : decode cX12_who 2 = .ok (.putfield 96, 3) := by decide +kernel
theorem dX12_who_5 : decode cX12_who 5 = .ok (.aload_n 0, 1) := by decide +kernel
theorem dX12_who_6 : decode cX12_who 6 = .ok (.iload_n 1, 1) := by decide +kernel
theorem dX12_who_7 : decode cX12_who 7 = .ok (.iconst 0, 1) := by decide +kernel
theorem dX12_who_8 : decode cX12_who 8 = .ok (.bipush 11, 2) := by decide +kernel
theorem dX12_who_10 : decode cX12_who 10 = .ok (.invokestatic 346, 3) := by decide +kernel
theorem dX12_who_13 : decode cX12_who 13 = .ok (.ifCond .eq 27, 3) := by decide +kernel
theorem dX12_who_16 : decode cX12_who 16 = .ok (.iload_n 2, 1) := by decide +kernel
theorem dX12_who_17 : decode cX12_who 17 = .ok (.iconst 0, 1) := by decide +kernel
theorem dX12_who_18 : decode cX12_who 18 = .ok (.bipush 11, 2) := by decide +kernel
theorem dX12_who_20 : decode cX12_who 20 = .ok (.invokestatic 346, 3) := by decide +kernel
theorem dX12_who_23 : decode cX12_who 23 = .ok (.ifCond .eq 17, 3) := by decide +kernel
theorem dX12_who_26 : decode cX12_who 26 = .ok (.iload_n 3, 1) := by decide +kernel
theorem dX12_who_27 : decode cX12_who 27 = .ok (.iconst 0, 1) := by decide +kernel
theorem dX12_who_28 : decode cX12_who 28 = .ok (.bipush 100, 2) := by decide +kernel
theorem dX12_who_30 : decode cX12_who 30 = .ok (.invokestatic 346, 3) := by decide +kernel
theorem dX12_who_33 : decode cX12_who 33 = .ok (.ifCond .eq 7, 3) := by decide +kernel
theorem dX12_who_36 : decode cX12_who 36 = .ok (.iconst 1, 1) := by decide +kernel
theorem dX12_who_37 : decode cX12_who 37 = .ok (.goto 4, 3) := by decide +kernel
theorem dX12_who_40 : decode cX12_who 40 = .ok (.iconst 0, 1) := by decide +kernel
theorem dX12_who_41 : decode cX12_who 41 = .ok (.iconst 1, 1) := by decide +kernel
theorem dX12_who_42 : decode cX12_who 42 = .ok (.invokevirtual 257, 3) := by decide +kernel
theorem dX12_who_45 : decode cX12_who 45 = .ok (.ifCond .ne 5, 3) := by decide +kernel
theorem dX12_who_48 : decode cX12_who 48 = .ok (.iconst 0, 1) := by decide +kernel
theorem dX12_who_49 : decode cX12_who 49 = .ok (.ireturn, 1) := by decide +kernel
theorem dX12_who_50 : decode cX12_who 50 = .ok (.aload_n 0, 1) := by decide +kernel
theorem dX12_who_51 : decode cX12_who 51 = .ok (.iload_n 3, 1) := by decide +kernel
theorem dX12_who_52 : decode cX12_who 52 = .ok (.invokevirtual 405, 3) := by decide +kernel
theorem dX12_who_55 : decode cX12_who 55 = .ok (.aload_n 0, 1) := by decide +kernel
theorem dX12_who_56 : decode cX12_who 56 = .ok (.bipush 86, 2) := by decide +kernel
theorem dX12_who_58 : decode cX12_who 58 = .ok (.iload_n 1, 1) := by decide +kernel
theorem dX12_who_59 : decode cX12_who 59 = .ok (.iload_n 2, 1) := by decide +kernel
theorem dX12_who_60 : decode cX12_who 60 = .ok (.invokevirtual 310, 3) := by decide +kernel
theorem dX12_who_63 : decode cX12_who 63 = .ok (.ireturn, 1) := by decide +kernel
theorem dX12_areLike_0 : decode cX12_areLike 0 = .ok (.iconst 0, 1) := by decide +kernel
theorem dX12_areLike_1 : decode cX12_areLike 1 = .ok (.istore_n 3, 1) := by decide +kernel
theorem dX12_areLike_2 : decode cX12_areLike 2 = .ok (.iload_n 3, 1) := by decide +kernel
theorem dX12_areLike_3 : decode cX12_areLike 3 = .ok (.bipush 12, 2) := by decide +kernel
theorem dX12_areLike_5 : decode cX12_areLike 5 = .ok (.if_icmp .ge 36, 3) := by decide +kernel
theorem dX12_areLike_8 : decode cX12_areLike 8 = .ok (.aload_n 0, 1) := by decide +kernel
theorem dX12_areLike_9 : decode cX12_areLike 9 = .ok (.getfield 66, 3) := by decide +kernel
theorem dX12_areLike_12 : decode cX12_areLike 12 = .ok (.bipush 12, 2) := by decide +kernel
theorem dX12_areLike_14 : decode cX12_areLike 14 = .ok (.iload_n 1, 1) := by decide +kernel
theorem dX12_areLike_15 : decode cX12_areLike 15 = .ok (.imul, 1) := by decide +kernel
theorem dX12_areLike_16 : decode cX12_areLike 16 = .ok (.iload_n 3, 1) := by decide +kernel
theorem dX12_areLike_17 : decode cX12_areLike 17 = .ok (.iadd, 1) := by decide +kernel
theorem dX12_areLike_18 : decode cX12_areLike 18 = .ok (.iaload, 1) := by decide +kernel
theorem dX12_areLike_19 : decode cX12_areLike 19 = .ok (.aload_n 0, 1) := by decide +kernel
theorem dX12_areLike_20 : decode cX12_areLike 20 = .ok (.getfield 66, 3) := by decide +kernel
theorem dX12_areLike_23 : decode cX12_areLike 23 = .ok (.bipush 12, 2) := by decide +kernel
theorem dX12_areLike_25 : decode cX12_areLike 25 = .ok (.iload_n 2, 1) := by decide +kernel
theorem dX12_areLike_26 : decode cX12_areLike 26 = .ok (.imul, 1) := by decide +kernel
theorem dX12_areLike_27 : decode cX12_areLike 27 = .ok (.iload_n 3, 1) := by decide +kernel
theorem dX12_areLike_28 : decode cX12_areLike 28 = .ok (.iadd, 1) := by decide +kernel
theorem dX12_areLike_29 : decode cX12_areLike 29 = .ok (.iaload, 1) := by decide +kernel
theorem dX12_areLike_30 : decode cX12_areLike 30 = .ok (.if_icmp .eq 5, 3) := by decide +kernel
theorem dX12_areLike_33 : decode cX12_areLike 33 = .ok (.iconst 0, 1) := by decide +kernel
theorem dX12_areLike_34 : decode cX12_areLike 34 = .ok (.ireturn, 1) := by decide +kernel
theorem dX12_areLike_35 : decode cX12_areLike 35 = .ok (.iinc 3 1, 3) := by decide +kernel
theorem dX12_areLike_38 : decode cX12_areLike 38 = .ok (.goto (-36), 3) := by decide +kernel
theorem dX12_areLike_41 : decode cX12_areLike 41 = .ok (.iconst 1, 1) := by decide +kernel
theorem dX12_areLike_42 : decode cX12_areLike 42 = .ok (.ireturn, 1) := by decide +kernel
theorem dX12_round_0 : decode cX12_round 0 = .ok (.aload_n 0, 1) := by decide +kernel
theorem dX12_round_1 : decode cX12_round 1 = .ok (.iconst 0, 1) := by decide +kernel
theorem dX12_round_2 : decode cX12_round 2 = .ok (.putfield 96, 3) := by decide +kernel
theorem dX12_round_5 : decode cX12_round 5 = .ok (.aload_n 0, 1) := by decide +kernel
theorem dX12_round_6 : decode cX12_round 6 = .ok (.iload_n 1, 1) := by decide +kernel
theorem dX12_round_7 : decode cX12_round 7 = .ok (.iconst 1, 1) := by decide +kernel
theorem dX12_round_8 : decode cX12_round 8 = .ok (.invokevirtual 371, 3) := by decide +kernel
theorem dX12_round_11 : decode cX12_round 11 = .ok (.ifCond .ne 5, 3) := by decide +kernel
theorem dX12_round_14 : decode cX12_round 14 = .ok (.iconst 0, 1) := by decide +kernel
theorem dX12_round_15 : decode cX12_round 15 = .ok (.ireturn, 1) := by decide +kernel
theorem dX12_round_16 : decode cX12_round 16 = .ok (.aload_n 0, 1) := by decide +kernel
theorem dX12_round_17 : decode cX12_round 17 = .ok (.invokevirtual 337, 3) := by decide +kernel
theorem dX12_round_20 : decode cX12_round 20 = .ok (.iconst 0, 1) := by decide +kernel
theorem dX12_round_21 : decode cX12_round 21 = .ok (.istore_n 2, 1) := by decide +kernel
theorem dX12_round_22 : decode cX12_round 22 = .ok (.iload_n 2, 1) := by decide +kernel
theorem dX12_round_23 : decode cX12_round 23 = .ok (.sipush 200, 3) := by decide +kernel
theorem dX12_round_26 : decode cX12_round 26 = .ok (.if_icmp .gt 52, 3) := by decide +kernel
theorem dX12_round_29 : decode cX12_round 29 = .ok (.aload_n 0, 1) := by decide +kernel
theorem dX12_round_30 : decode cX12_round 30 = .ok (.bipush 86, 2) := by decide +kernel
theorem dX12_round_32 : decode cX12_round 32 = .ok (.invokevirtual 343, 3) := by decide +kernel
theorem dX12_round_35 : decode cX12_round 35 = .ok (.iconst 0, 1) := by decide +kernel
theorem dX12_round_36 : decode cX12_round 36 = .ok (.istore_n 3, 1) := by decide +kernel
theorem dX12_round_37 : decode cX12_round 37 = .ok (.iload_n 3, 1) := by decide +kernel
theorem dX12_round_38 : decode cX12_round 38 = .ok (.bipush 12, 2) := by decide +kernel
theorem dX12_round_40 : decode cX12_round 40 = .ok (.if_icmp .ge 26, 3) := by decide +kernel
theorem dX12_round_43 : decode cX12_round 43 = .ok (.aload_n 0, 1) := by decide +kernel
theorem dX12_round_44 : decode cX12_round 44 = .ok (.getfield 66, 3) := by decide +kernel
theorem dX12_round_47 : decode cX12_round 47 = .ok (.bipush 12, 2) := by decide +kernel
theorem dX12_round_49 : decode cX12_round 49 = .ok (.iload_n 2, 1) := by decide +kernel
theorem dX12_round_50 : decode cX12_round 50 = .ok (.imul, 1) := by decide +kernel
theorem dX12_round_51 : decode cX12_round 51 = .ok (.iload_n 3, 1) := by decide +kernel
theorem dX12_round_52 : decode cX12_round 52 = .ok (.iadd, 1) := by decide +kernel
theorem dX12_round_53 : decode cX12_round 53 = .ok (.aload_n 0, 1) := by decide +kernel
theorem dX12_round_54 : decode cX12_round 54 = .ok (.getfield 63, 3) := by decide +kernel
theorem dX12_round_57 : decode cX12_round 57 = .ok (.iload_n 3, 1) := by decide +kernel
theorem dX12_round_58 : decode cX12_round 58 = .ok (.iaload, 1) := by decide +kernel
theorem dX12_round_59 : decode cX12_round 59 = .ok (.iastore, 1) := by decide +kernel
theorem dX12_round_60 : decode cX12_round 60 = .ok (.iinc 3 1, 3) := by decide +kernel
theorem dX12_round_63 : decode cX12_round 63 = .ok (.goto (-26), 3) := by decide +kernel
theorem dX12_round_66 : decode cX12_round 66 = .ok (.aload_n 0, 1) := by decide +kernel
theorem dX12_round_67 : decode cX12_round 67 = .ok (.bipush 86, 2) := by decide +kernel
theorem dX12_round_69 : decode cX12_round 69 = .ok (.invokevirtual 334, 3) := by decide +kernel
theorem dX12_round_72 : decode cX12_round 72 = .ok (.iinc 2 1, 3) := by decide +kernel
theorem dX12_round_75 : decode cX12_round 75 = .ok (.goto (-53), 3) := by decide +kernel
theorem dX12_round_78 : decode cX12_round 78 = .ok (.iconst 0, 1) := by decide +kernel
theorem dX12_round_79 : decode cX12_round 79 = .ok (.istore_n 2, 1) := by decide +kernel
theorem dX12_round_80 : decode cX12_round 80 = .ok (.iload_n 2, 1) := by decide +kernel
theorem dX12_round_81 : decode cX12_round 81 = .ok (.sipush 200, 3) := by decide +kernel
theorem dX12_round_84 : decode cX12_round 84 = .ok (.if_icmp .ge 47, 3) := by decide +kernel
theorem dX12_round_87 : decode cX12_round 87 = .ok (.iload_n 2, 1) := by decide +kernel
theorem dX12_round_88 : decode cX12_round 88 = .ok (.iconst 1, 1) := by decide +kernel
theorem dX12_round_89 : decode cX12_round 89 = .ok (.iadd, 1) := by decide +kernel
theorem dX12_round_90 : decode cX12_round 90 = .ok (.istore_n 3, 1) := by decide +kernel
theorem dX12_round_91 : decode cX12_round 91 = .ok (.iload_n 3, 1) := by decide +kernel
theorem dX12_round_92 : decode cX12_round 92 = .ok (.sipush 200, 3) := by decide +kernel
theorem dX12_round_95 : decode cX12_round 95 = .ok (.if_icmp .gt 30, 3) := by decide +kernel
theorem dX12_round_98 : decode cX12_round 98 = .ok (.aload_n 0, 1) := by decide +kernel
theorem dX12_round_99 : decode cX12_round 99 = .ok (.iload_n 2, 1) := by decide +kernel
theorem dX12_round_100 : decode cX12_round 100 = .ok (.iload_n 3, 1) := by decide +kernel
theorem dX12_round_101 : decode cX12_round 101 = .ok (.invokevirtual 415, 3) := by decide +kernel
theorem dX12_round_104 : decode cX12_round 104 = .ok (.ifCond .eq 15, 3) := by decide +kernel
theorem dX12_round_107 : decode cX12_round 107 = .ok (.iload_n 1, 1) := by decide +kernel
theorem dX12_round_108 : decode cX12_round 108 = .ok (.ifCond .ne 7, 3) := by decide +kernel
theorem dX12_round_111 : decode cX12_round 111 = .ok (.iload_n 2, 1) := by decide +kernel
theorem dX12_round_112 : decode cX12_round 112 = .ok (.goto 6, 3) := by decide +kernel
theorem dX12_round_115 : decode cX12_round 115 = .ok (.iload_n 3, 1) := by decide +kernel
theorem dX12_round_116 : decode cX12_round 116 = .ok (.iload_n 2, 1) := by decide +kernel
theorem dX12_round_117 : decode cX12_round 117 = .ok (.isub, 1) := by decide +kernel
theorem dX12_round_118 : decode cX12_round 118 = .ok (.ireturn, 1) := by decide +kernel
theorem dX12_round_119 : decode cX12_round 119 = .ok (.iinc 3 1, 3) := by decide +kernel
theorem dX12_round_122 : decode cX12_round 122 = .ok (.goto (-31), 3) := by decide +kernel
theorem dX12_round_125 : decode cX12_round 125 = .ok (.iinc 2 1, 3) := by decide +kernel
theorem dX12_round_128 : decode cX12_round 128 = .ok (.goto (-48), 3) := by decide +kernel
theorem dX12_round_131 : decode cX12_round 131 = .ok (.iconst (-1), 1) := by decide +kernel
theorem dX12_round_132 : decode cX12_round 132 = .ok (.ireturn, 1) := by decide +kernel
theorem dX12_asNow_0 : decode cX12_asNow 0 = .ok (.aload_n 0, 1) := by decide +kernel
theorem dX12_asNow_1 : decode cX12_asNow 1 = .ok (.iconst 0, 1) := by decide +kernel
theorem dX12_asNow_2 : decode cX12_asNow 2 = .ok (.putfield 96, 3) := by decide +kernel
theorem dX12_asNow_5 : decode cX12_asNow 5 = .ok (.aload_n 0, 1) := by decide +kernel
theorem dX12_asNow_6 : decode cX12_asNow 6 = .ok (.invokevirtual 337, 3) := by decide +kernel
theorem dX12_asNow_9 : decode cX12_asNow 9 = .ok (.iconst 1, 1) := by decide +kernel
theorem dX12_asNow_10 : decode cX12_asNow 10 = .ok (.istore_n 1, 1) := by decide +kernel
theorem dX12_asNow_11 : decode cX12_asNow 11 = .ok (.iload_n 1, 1) := by decide +kernel
theorem dX12_asNow_12 : decode cX12_asNow 12 = .ok (.sipush 200, 3) := by decide +kernel
theorem dX12_asNow_15 : decode cX12_asNow 15 = .ok (.if_icmp .gt 65, 3) := by decide +kernel
theorem dX12_asNow_18 : decode cX12_asNow 18 = .ok (.aload_n 0, 1) := by decide +kernel
theorem dX12_asNow_19 : decode cX12_asNow 19 = .ok (.bipush 86, 2) := by decide +kernel
theorem dX12_asNow_21 : decode cX12_asNow 21 = .ok (.invokevirtual 334, 3) := by decide +kernel
theorem dX12_asNow_24 : decode cX12_asNow 24 = .ok (.iconst 1, 1) := by decide +kernel
theorem dX12_asNow_25 : decode cX12_asNow 25 = .ok (.istore_n 2, 1) := by decide +kernel
theorem dX12_asNow_26 : decode cX12_asNow 26 = .ok (.iconst 0, 1) := by decide +kernel
theorem dX12_asNow_27 : decode cX12_asNow 27 = .ok (.istore_n 3, 1) := by decide +kernel
theorem dX12_asNow_28 : decode cX12_asNow 28 = .ok (.iload_n 3, 1) := by decide +kernel
theorem dX12_asNow_29 : decode cX12_asNow 29 = .ok (.aload_n 0, 1) := by decide +kernel
theorem dX12_asNow_30 : decode cX12_asNow 30 = .ok (.getfield 264, 3) := by decide +kernel
theorem dX12_asNow_33 : decode cX12_asNow 33 = .ok (.if_icmp .ge 35, 3) := by decide +kernel
theorem dX12_asNow_36 : decode cX12_asNow 36 = .ok (.iload_n 2, 1) := by decide +kernel
theorem dX12_asNow_37 : decode cX12_asNow 37 = .ok (.ifCond .eq 31, 3) := by decide +kernel
theorem dX12_asNow_40 : decode cX12_asNow 40 = .ok (.aload_n 0, 1) := by decide +kernel
theorem dX12_asNow_41 : decode cX12_asNow 41 = .ok (.bipush 86, 2) := by decide +kernel
theorem dX12_asNow_43 : decode cX12_asNow 43 = .ok (.iload_n 3, 1) := by decide +kernel
theorem dX12_asNow_44 : decode cX12_asNow 44 = .ok (.invokevirtual 374, 3) := by decide +kernel
theorem dX12_asNow_47 : decode cX12_asNow 47 = .ok (.aload_n 0, 1) := by decide +kernel
theorem dX12_asNow_48 : decode cX12_asNow 48 = .ok (.iconst 0, 1) := by decide +kernel
theorem dX12_asNow_49 : decode cX12_asNow 49 = .ok (.iload_n 3, 1) := by decide +kernel
theorem dX12_asNow_50 : decode cX12_asNow 50 = .ok (.invokevirtual 374, 3) := by decide +kernel
theorem dX12_asNow_53 : decode cX12_asNow 53 = .ok (.if_icmp .ne 7, 3) := by decide +kernel
theorem dX12_asNow_56 : decode cX12_asNow 56 = .ok (.iconst 1, 1) := by decide +kernel
theorem dX12_asNow_57 : decode cX12_asNow 57 = .ok (.goto 4, 3) := by decide +kernel
theorem dX12_asNow_60 : decode cX12_asNow 60 = .ok (.iconst 0, 1) := by decide +kernel
theorem dX12_asNow_61 : decode cX12_asNow 61 = .ok (.istore_n 2, 1) := by decide +kernel
theorem dX12_asNow_62 : decode cX12_asNow 62 = .ok (.iinc 3 1, 3) := by decide +kernel
theorem dX12_asNow_65 : decode cX12_asNow 65 = .ok (.goto (-37), 3) := by decide +kernel
theorem dX12_asNow_68 : decode cX12_asNow 68 = .ok (.iload_n 2, 1) := by decide +kernel
theorem dX12_asNow_69 : decode cX12_asNow 69 = .ok (.ifCond .eq 5, 3) := by decide +kernel
theorem dX12_asNow_72 : decode cX12_asNow 72 = .ok (.iload_n 1, 1) := by decide +kernel
theorem dX12_asNow_73 : decode cX12_asNow 73 = .ok (.ireturn, 1) := by decide +kernel
theorem dX12_asNow_74 : decode cX12_asNow 74 = .ok (.iinc 1 1, 3) := by decide +kernel
theorem dX12_asNow_77 : decode cX12_asNow 77 = .ok (.goto (-66), 3) := by decide +kernel
theorem dX12_asNow_80 : decode cX12_asNow 80 = .ok (.iconst (-1), 1) := by decide +kernel
theorem dX12_asNow_81 : decode cX12_asNow 81 = .ok (.ireturn, 1) := by decide +kernel
theorem dX12_known_0 : decode cX12_known 0 = .ok (.aload_n 0, 1) := by decide +kernel
theorem dX12_known_1 : decode cX12_known 1 = .ok (.iconst 0, 1) := by decide +kernel
theorem dX12_known_2 : decode cX12_known 2 = .ok (.putfield 96, 3) := by decide +kernel
theorem dX12_known_5 : decode cX12_known 5 = .ok (.aload_n 0, 1) := by decide +kernel
theorem dX12_known_6 : decode cX12_known 6 = .ok (.iload_n 1, 1) := by decide +kernel
theorem dX12_known_7 : decode cX12_known 7 = .ok (.invokevirtual 368, 3) := by decide +kernel
theorem dX12_known_10 : decode cX12_known 10 = .ok (.ifCond .eq 13, 3) := by decide +kernel
theorem dX12_known_13 : decode cX12_known 13 = .ok (.aload_n 0, 1) := by decide +kernel
theorem dX12_known_14 : decode cX12_known 14 = .ok (.iload_n 2, 1) := by decide +kernel
theorem dX12_known_15 : decode cX12_known 15 = .ok (.iconst 0, 1) := by decide +kernel
theorem dX12_known_16 : decode cX12_known 16 = .ok (.iconst 2, 1) := by decide +kernel
theorem dX12_known_17 : decode cX12_known 17 = .ok (.invokevirtual 402, 3) := by decide +kernel
theorem dX12_known_20 : decode cX12_known 20 = .ok (.ifCond .ne 5, 3) := by decide +kernel
theorem dX12_known_23 : decode cX12_known 23 = .ok (.iconst 0, 1) := by decide +kernel
theorem dX12_known_24 : decode cX12_known 24 = .ok (.ireturn, 1) := by decide +kernel
theorem dX12_known_25 : decode cX12_known 25 = .ok (.aload_n 0, 1) := by decide +kernel
theorem dX12_known_26 : decode cX12_known 26 = .ok (.iconst 0, 1) := by decide +kernel
theorem dX12_known_27 : decode cX12_known 27 = .ok (.iload_n 1, 1) := by decide +kernel
theorem dX12_known_28 : decode cX12_known 28 = .ok (.invokevirtual 374, 3) := by decide +kernel
theorem dX12_known_31 : decode cX12_known 31 = .ok (.istore_n 3, 1) := by decide +kernel
theorem dX12_known_32 : decode cX12_known 32 = .ok (.aload_n 0, 1) := by decide +kernel
theorem dX12_known_33 : decode cX12_known 33 = .ok (.invokevirtual 337, 3) := by decide +kernel
theorem dX12_known_36 : decode cX12_known 36 = .ok (.iconst 0, 1) := by decide +kernel
theorem dX12_known_37 : decode cX12_known 37 = .ok (.istore 4, 2) := by decide +kernel
theorem dX12_known_39 : decode cX12_known 39 = .ok (.iload 4, 2) := by decide +kernel
theorem dX12_known_41 : decode cX12_known 41 = .ok (.iload_n 2, 1) := by decide +kernel
theorem dX12_known_42 : decode cX12_known 42 = .ok (.if_icmp .ge 25, 3) := by decide +kernel
theorem dX12_known_45 : decode cX12_known 45 = .ok (.aload_n 0, 1) := by decide +kernel
theorem dX12_known_46 : decode cX12_known 46 = .ok (.bipush 86, 2) := by decide +kernel
theorem dX12_known_48 : decode cX12_known 48 = .ok (.invokevirtual 334, 3) := by decide +kernel
theorem dX12_known_51 : decode cX12_known 51 = .ok (.iload_n 3, 1) := by decide +kernel
theorem dX12_known_52 : decode cX12_known 52 = .ok (.aload_n 0, 1) := by decide +kernel
theorem dX12_known_53 : decode cX12_known 53 = .ok (.bipush 86, 2) := by decide +kernel
theorem dX12_known_55 : decode cX12_known 55 = .ok (.iload_n 1, 1) := by decide +kernel
theorem dX12_known_56 : decode cX12_known 56 = .ok (.invokevirtual 374, 3) := by decide +kernel
theorem dX12_known_59 : decode cX12_known 59 = .ok (.ior, 1) := by decide +kernel
theorem dX12_known_60 : decode cX12_known 60 = .ok (.istore_n 3, 1) := by decide +kernel
theorem dX12_known_61 : decode cX12_known 61 = .ok (.iinc 4 1, 3) := by decide +kernel
theorem dX12_known_64 : decode cX12_known 64 = .ok (.goto (-25), 3) := by decide +kernel
theorem dX12_known_67 : decode cX12_known 67 = .ok (.iload_n 3, 1) := by decide +kernel
theorem dX12_known_68 : decode cX12_known 68 = .ok (.ireturn, 1) := by decide +kernel
theorem dX12_unknown_0 : decode cX12_unknown 0 = .ok (.iconst 0, 1) := by decide +kernel
theorem dX12_unknown_1 : decode cX12_unknown 1 = .ok (.istore_n 1, 1) := by decide +kernel
theorem dX12_unknown_2 : decode cX12_unknown 2 = .ok (.iconst 0, 1) := by decide +kernel
theorem dX12_unknown_3 : decode cX12_unknown 3 = .ok (.istore_n 2, 1) := by decide +kernel
theorem dX12_unknown_4 : decode cX12_unknown 4 = .ok (.iload_n 2, 1) := by decide +kernel
theorem dX12_unknown_5 : decode cX12_unknown 5 = .ok (.aload_n 0, 1) := by decide +kernel
theorem dX12_unknown_6 : decode cX12_unknown 6 = .ok (.getfield 264, 3) := by decide +kernel
theorem dX12_unknown_9 : decode cX12_unknown 9 = .ok (.if_icmp .ge 28, 3) := by decide +kernel
theorem dX12_unknown_12 : decode cX12_unknown 12 = .ok (.iload_n 1, 1) := by decide +kernel
theorem dX12_unknown_13 : decode cX12_unknown 13 = .ok (.aload_n 0, 1) := by decide +kernel
theorem dX12_unknown_14 : decode cX12_unknown 14 = .ok (.getfield 264, 3) := by decide +kernel
theorem dX12_unknown_17 : decode cX12_unknown 17 = .ok (.iconst 1, 1) := by decide +kernel
theorem dX12_unknown_18 : decode cX12_unknown 18 = .ok (.isub, 1) := by decide +kernel
theorem dX12_unknown_19 : decode cX12_unknown 19 = .ok (.aload_n 0, 1) := by decide +kernel
theorem dX12_unknown_20 : decode cX12_unknown 20 = .ok (.getfield 69, 3) := by decide +kernel
theorem dX12_unknown_23 : decode cX12_unknown 23 = .ok (.iload_n 2, 1) := by decide +kernel
theorem dX12_unknown_24 : decode cX12_unknown 24 = .ok (.iaload, 1) := by decide +kernel
theorem dX12_unknown_25 : decode cX12_unknown 25 = .ok (.invokestatic 291, 3) := by decide +kernel
theorem dX12_unknown_28 : decode cX12_unknown 28 = .ok (.isub, 1) := by decide +kernel
theorem dX12_unknown_29 : decode cX12_unknown 29 = .ok (.iadd, 1) := by decide +kernel
theorem dX12_unknown_30 : decode cX12_unknown 30 = .ok (.istore_n 1, 1) := by decide +kernel
theorem dX12_unknown_31 : decode cX12_unknown 31 = .ok (.iinc 2 1, 3) := by decide +kernel
theorem dX12_unknown_34 : decode cX12_unknown 34 = .ok (.goto (-30), 3) := by decide +kernel
theorem dX12_unknown_37 : decode cX12_unknown 37 = .ok (.iload_n 1, 1) := by decide +kernel
theorem dX12_unknown_38 : decode cX12_unknown 38 = .ok (.iconst 2, 1) := by decide +kernel
theorem dX12_unknown_39 : decode cX12_unknown 39 = .ok (.idiv, 1) := by decide +kernel
theorem dX12_unknown_40 : decode cX12_unknown 40 = .ok (.ireturn, 1) := by decide +kernel
theorem dX12_knows_0 : decode cX12_knows 0 = .ok (.iconst 0, 1) := by decide +kernel
theorem dX12_knows_1 : decode cX12_knows 1 = .ok (.istore_n 1, 1) := by decide +kernel
theorem dX12_knows_2 : decode cX12_knows 2 = .ok (.iload_n 1, 1) := by decide +kernel
theorem dX12_knows_3 : decode cX12_knows 3 = .ok (.aload_n 0, 1) := by decide +kernel
theorem dX12_knows_4 : decode cX12_knows 4 = .ok (.getfield 264, 3) := by decide +kernel
theorem dX12_knows_7 : decode cX12_knows 7 = .ok (.if_icmp .ge 25, 3) := by decide +kernel
theorem dX12_knows_10 : decode cX12_knows 10 = .ok (.aload_n 0, 1) := by decide +kernel
theorem dX12_knows_11 : decode cX12_knows 11 = .ok (.getfield 69, 3) := by decide +kernel
theorem dX12_knows_14 : decode cX12_knows 14 = .ok (.iload_n 1, 1) := by decide +kernel
theorem dX12_knows_15 : decode cX12_knows 15 = .ok (.dup2, 1) := by decide +kernel
theorem dX12_knows_16 : decode cX12_knows 16 = .ok (.iaload, 1) := by decide +kernel
theorem dX12_knows_17 : decode cX12_knows 17 = .ok (.aload_n 0, 1) := by decide +kernel
theorem dX12_knows_18 : decode cX12_knows 18 = .ok (.bipush 86, 2) := by decide +kernel
theorem dX12_knows_20 : decode cX12_knows 20 = .ok (.iload_n 1, 1) := by decide +kernel
theorem dX12_knows_21 : decode cX12_knows 21 = .ok (.invokevirtual 374, 3) := by decide +kernel
theorem dX12_knows_24 : decode cX12_knows 24 = .ok (.ior, 1) := by decide +kernel
theorem dX12_knows_25 : decode cX12_knows 25 = .ok (.iastore, 1) := by decide +kernel
theorem dX12_knows_26 : decode cX12_knows 26 = .ok (.iinc 1 1, 3) := by decide +kernel
theorem dX12_knows_29 : decode cX12_knows 29 = .ok (.goto (-27), 3) := by decide +kernel
theorem dX12_knows_32 : decode cX12_knows 32 = .ok (.return_, 1) := by decide +kernel
theorem dX12_allKnownIn_0 : decode cX12_allKnownIn 0 = .ok (.iconst 0, 1) := by decide +kernel
theorem dX12_allKnownIn_1 : decode cX12_allKnownIn 1 = .ok (.istore_n 1, 1) := by decide +kernel
theorem dX12_allKnownIn_2 : decode cX12_allKnownIn 2 = .ok (.iload_n 1, 1) := by decide +kernel
theorem dX12_allKnownIn_3 : decode cX12_allKnownIn 3 = .ok (.aload_n 0, 1) := by decide +kernel
theorem dX12_allKnownIn_4 : decode cX12_allKnownIn 4 = .ok (.getfield 264, 3) := by decide +kernel
theorem dX12_allKnownIn_7 : decode cX12_allKnownIn 7 = .ok (.if_icmp .ge 16, 3) := by decide +kernel
theorem dX12_allKnownIn_10 : decode cX12_allKnownIn 10 = .ok (.aload_n 0, 1) := by decide +kernel
theorem dX12_allKnownIn_11 : decode cX12_allKnownIn 11 = .ok (.getfield 69, 3) := by decide +kernel
theorem dX12_allKnownIn_14 : decode cX12_allKnownIn 14 = .ok (.iload_n 1, 1) := by decide +kernel
theorem dX12_allKnownIn_15 : decode cX12_allKnownIn 15 = .ok (.iconst 0, 1) := by decide +kernel
theorem dX12_allKnownIn_16 : decode cX12_allKnownIn 16 = .ok (.iastore, 1) := by decide +kernel
theorem dX12_allKnownIn_17 : decode cX12_allKnownIn 17 = .ok (.iinc 1 1, 3) := by decide +kernel
theorem dX12_allKnownIn_20 : decode cX12_allKnownIn 20 = .ok (.goto (-18), 3) := by decide +kernel
theorem dX12_allKnownIn_23 : decode cX12_allKnownIn 23 = .ok (.iconst 0, 1) := by decide +kernel
theorem dX12_allKnownIn_24 : decode cX12_allKnownIn 24 = .ok (.istore_n 1, 1) := by decide +kernel
theorem dX12_allKnownIn_25 : decode cX12_allKnownIn 25 = .ok (.iload_n 1, 1) := by decide +kernel
theorem dX12_allKnownIn_26 : decode cX12_allKnownIn 26 = .ok (.bipush 100, 2) := by decide +kernel
theorem dX12_allKnownIn_28 : decode cX12_allKnownIn 28 = .ok (.if_icmp .gt 28, 3) := by decide +kernel
theorem dX12_allKnownIn_31 : decode cX12_allKnownIn 31 = .ok (.aload_n 0, 1) := by decide +kernel
theorem dX12_allKnownIn_32 : decode cX12_allKnownIn 32 = .ok (.invokevirtual 418, 3) := by decide +kernel
theorem dX12_allKnownIn_35 : decode cX12_allKnownIn 35 = .ok (.aload_n 0, 1) := by decide +kernel
theorem dX12_allKnownIn_36 : decode cX12_allKnownIn 36 = .ok (.invokevirtual 421, 3) := by decide +kernel
theorem dX12_allKnownIn_39 : decode cX12_allKnownIn 39 = .ok (.ifCond .ne 5, 3) := by decide +kernel
theorem dX12_allKnownIn_42 : decode cX12_allKnownIn 42 = .ok (.iload_n 1, 1) := by decide +kernel
theorem dX12_allKnownIn_43 : decode cX12_allKnownIn 43 = .ok (.ireturn, 1) := by decide +kernel
theorem dX12_allKnownIn_44 : decode cX12_allKnownIn 44 = .ok (.aload_n 0, 1) := by decide +kernel
theorem dX12_allKnownIn_45 : decode cX12_allKnownIn 45 = .ok (.bipush 86, 2) := by decide +kernel
theorem dX12_allKnownIn_47 : decode cX12_allKnownIn 47 = .ok (.invokevirtual 334, 3) := by decide +kernel
theorem dX12_allKnownIn_50 : decode cX12_allKnownIn 50 = .ok (.iinc 1 1, 3) := by decide +kernel
theorem dX12_allKnownIn_53 : decode cX12_allKnownIn 53 = .ok (.goto (-28), 3) := by decide +kernel
theorem dX12_allKnownIn_56 : decode cX12_allKnownIn 56 = .ok (.sipush 9999, 3) := by decide +kernel
theorem dX12_allKnownIn_59 : decode cX12_allKnownIn 59 = .ok (.ireturn, 1) := by decide +kernel
theorem dX12_allKnown_0 : decode cX12_allKnown 0 = .ok (.aload_n 0, 1) := by decide +kernel
theorem dX12_allKnown_1 : decode cX12_allKnown 1 = .ok (.iconst 0, 1) := by decide +kernel
theorem dX12_allKnown_2 : decode cX12_allKnown 2 = .ok (.putfield 96, 3) := by decide +kernel
theorem dX12_allKnown_5 : decode cX12_allKnown 5 = .ok (.aload_n 0, 1) := by decide +kernel
theorem dX12_allKnown_6 : decode cX12_allKnown 6 = .ok (.invokevirtual 337, 3) := by decide +kernel
theorem dX12_allKnown_9 : decode cX12_allKnown 9 = .ok (.aload_n 0, 1) := by decide +kernel
theorem dX12_allKnown_10 : decode cX12_allKnown 10 = .ok (.invokevirtual 424, 3) := by decide +kernel
theorem dX12_allKnown_13 : decode cX12_allKnown 13 = .ok (.istore_n 1, 1) := by decide +kernel
theorem dX12_allKnown_14 : decode cX12_allKnown 14 = .ok (.iload_n 1, 1) := by decide +kernel
theorem dX12_allKnown_15 : decode cX12_allKnown 15 = .ok (.sipush 9999, 3) := by decide +kernel
theorem dX12_allKnown_18 : decode cX12_allKnown 18 = .ok (.if_icmp .ne 7, 3) := by decide +kernel
theorem dX12_allKnown_21 : decode cX12_allKnown 21 = .ok (.iconst (-1), 1) := by decide +kernel
theorem dX12_allKnown_22 : decode cX12_allKnown 22 = .ok (.goto 4, 3) := by decide +kernel
theorem dX12_allKnown_25 : decode cX12_allKnown 25 = .ok (.iload_n 1, 1) := by decide +kernel
theorem dX12_allKnown_26 : decode cX12_allKnown 26 = .ok (.ireturn, 1) := by decide +kernel
theorem dX12_ahead_0 : decode cX12_ahead 0 = .ok (.aload_n 0, 1) := by decide +kernel
theorem dX12_ahead_1 : decode cX12_ahead 1 = .ok (.iconst 0, 1) := by decide +kernel
theorem dX12_ahead_2 : decode cX12_ahead 2 = .ok (.putfield 96, 3) := by decide +kernel
theorem dX12_ahead_5 : decode cX12_ahead 5 = .ok (.aload_n 0, 1) := by decide +kernel
theorem dX12_ahead_6 : decode cX12_ahead 6 = .ok (.iload_n 2, 1) := by decide +kernel
theorem dX12_ahead_7 : decode cX12_ahead 7 = .ok (.iconst 3, 1) := by decide +kernel
theorem dX12_ahead_8 : decode cX12_ahead 8 = .ok (.invokevirtual 371, 3) := by decide +kernel
theorem dX12_ahead_11 : decode cX12_ahead 11 = .ok (.ifCond .eq 13, 3) := by decide +kernel
theorem dX12_ahead_14 : decode cX12_ahead 14 = .ok (.aload_n 0, 1) := by decide +kernel
theorem dX12_ahead_15 : decode cX12_ahead 15 = .ok (.iload_n 1, 1) := by decide +kernel
theorem dX12_ahead_16 : decode cX12_ahead 16 = .ok (.iconst 0, 1) := by decide +kernel
theorem dX12_ahead_17 : decode cX12_ahead 17 = .ok (.iconst 2, 1) := by decide +kernel
theorem dX12_ahead_18 : decode cX12_ahead 18 = .ok (.invokevirtual 402, 3) := by decide +kernel
theorem dX12_ahead_21 : decode cX12_ahead 21 = .ok (.ifCond .ne 5, 3) := by decide +kernel
theorem dX12_ahead_24 : decode cX12_ahead 24 = .ok (.iconst 0, 1) := by decide +kernel
theorem dX12_ahead_25 : decode cX12_ahead 25 = .ok (.ireturn, 1) := by decide +kernel
theorem dX12_ahead_26 : decode cX12_ahead 26 = .ok (.aload_n 0, 1) := by decide +kernel
theorem dX12_ahead_27 : decode cX12_ahead 27 = .ok (.invokevirtual 337, 3) := by decide +kernel
theorem dX12_ahead_30 : decode cX12_ahead 30 = .ok (.iconst 0, 1) := by decide +kernel
theorem dX12_ahead_31 : decode cX12_ahead 31 = .ok (.istore_n 3, 1) := by decide +kernel
theorem dX12_ahead_32 : decode cX12_ahead 32 = .ok (.iload_n 3, 1) := by decide +kernel
theorem dX12_ahead_33 : decode cX12_ahead 33 = .ok (.aload_n 0, 1) := by decide +kernel
theorem dX12_ahead_34 : decode cX12_ahead 34 = .ok (.getfield 264, 3) := by decide +kernel
theorem dX12_ahead_37 : decode cX12_ahead 37 = .ok (.if_icmp .ge 23, 3) := by decide +kernel
theorem dX12_ahead_40 : decode cX12_ahead 40 = .ok (.aload_n 0, 1) := by decide +kernel
theorem dX12_ahead_41 : decode cX12_ahead 41 = .ok (.getfield 72, 3) := by decide +kernel
theorem dX12_ahead_44 : decode cX12_ahead 44 = .ok (.iload_n 3, 1) := by decide +kernel
theorem dX12_ahead_45 : decode cX12_ahead 45 = .ok (.iconst 0, 1) := by decide +kernel
theorem dX12_ahead_46 : decode cX12_ahead 46 = .ok (.iastore, 1) := by decide +kernel
theorem dX12_ahead_47 : decode cX12_ahead 47 = .ok (.aload_n 0, 1) := by decide +kernel
theorem dX12_ahead_48 : decode cX12_ahead 48 = .ok (.getfield 69, 3) := by decide +kernel
theorem dX12_ahead_51 : decode cX12_ahead 51 = .ok (.iload_n 3, 1) := by decide +kernel
theorem dX12_ahead_52 : decode cX12_ahead 52 = .ok (.iconst 0, 1) := by decide +kernel
theorem dX12_ahead_53 : decode cX12_ahead 53 = .ok (.iastore, 1) := by decide +kernel
theorem dX12_ahead_54 : decode cX12_ahead 54 = .ok (.iinc 3 1, 3) := by decide +kernel
theorem dX12_ahead_57 : decode cX12_ahead 57 = .ok (.goto (-25), 3) := by decide +kernel
theorem dX12_ahead_60 : decode cX12_ahead 60 = .ok (.aload_n 0, 1) := by decide +kernel
theorem dX12_ahead_61 : decode cX12_ahead 61 = .ok (.invokevirtual 418, 3) := by decide +kernel
theorem dX12_ahead_64 : decode cX12_ahead 64 = .ok (.iconst 0, 1) := by decide +kernel
theorem dX12_ahead_65 : decode cX12_ahead 65 = .ok (.istore_n 3, 1) := by decide +kernel
theorem dX12_ahead_66 : decode cX12_ahead 66 = .ok (.iload_n 3, 1) := by decide +kernel
theorem dX12_ahead_67 : decode cX12_ahead 67 = .ok (.iload_n 1, 1) := by decide +kernel
theorem dX12_ahead_68 : decode cX12_ahead 68 = .ok (.if_icmp .ge 56, 3) := by decide +kernel
theorem dX12_ahead_71 : decode cX12_ahead 71 = .ok (.aload_n 0, 1) := by decide +kernel
theorem dX12_ahead_72 : decode cX12_ahead 72 = .ok (.bipush 86, 2) := by decide +kernel
theorem dX12_ahead_74 : decode cX12_ahead 74 = .ok (.invokevirtual 334, 3) := by decide +kernel
theorem dX12_ahead_77 : decode cX12_ahead 77 = .ok (.aload_n 0, 1) := by decide +kernel
theorem dX12_ahead_78 : decode cX12_ahead 78 = .ok (.invokevirtual 418, 3) := by decide +kernel
theorem dX12_ahead_81 : decode cX12_ahead 81 = .ok (.iconst 0, 1) := by decide +kernel
theorem dX12_ahead_82 : decode cX12_ahead 82 = .ok (.istore 4, 2) := by decide +kernel
theorem dX12_ahead_84 : decode cX12_ahead 84 = .ok (.iload 4, 2) := by decide +kernel
theorem dX12_ahead_86 : decode cX12_ahead 86 = .ok (.aload_n 0, 1) := by decide +kernel
theorem dX12_ahead_87 : decode cX12_ahead 87 = .ok (.getfield 264, 3) := by decide +kernel
theorem dX12_ahead_90 : decode cX12_ahead 90 = .ok (.if_icmp .ge 28, 3) := by decide +kernel
theorem dX12_ahead_93 : decode cX12_ahead 93 = .ok (.aload_n 0, 1) := by decide +kernel
theorem dX12_ahead_94 : decode cX12_ahead 94 = .ok (.getfield 72, 3) := by decide +kernel
theorem dX12_ahead_97 : decode cX12_ahead 97 = .ok (.iload 4, 2) := by decide +kernel
theorem dX12_ahead_99 : decode cX12_ahead 99 = .ok (.dup2, 1) := by decide +kernel
theorem dX12_ahead_100 : decode cX12_ahead 100 = .ok (.iaload, 1) := by decide +kernel
theorem dX12_ahead_101 : decode cX12_ahead 101 = .ok (.aload_n 0, 1) := by decide +kernel
theorem dX12_ahead_102 : decode cX12_ahead 102 = .ok (.getfield 322, 3) := by decide +kernel
theorem dX12_ahead_105 : decode cX12_ahead 105 = .ok (.iload 4, 2) := by decide +kernel
theorem dX12_ahead_107 : decode cX12_ahead 107 = .ok (.ishr, 1) := by decide +kernel
theorem dX12_ahead_108 : decode cX12_ahead 108 = .ok (.iconst 1, 1) := by decide +kernel
theorem dX12_ahead_109 : decode cX12_ahead 109 = .ok (.iand, 1) := by decide +kernel
theorem dX12_ahead_110 : decode cX12_ahead 110 = .ok (.iadd, 1) := by decide +kernel
theorem dX12_ahead_111 : decode cX12_ahead 111 = .ok (.iastore, 1) := by decide +kernel
theorem dX12_ahead_112 : decode cX12_ahead 112 = .ok (.iinc 4 1, 3) := by decide +kernel
theorem dX12_ahead_115 : decode cX12_ahead 115 = .ok (.goto (-31), 3) := by decide +kernel
theorem dX12_ahead_118 : decode cX12_ahead 118 = .ok (.iinc 3 1, 3) := by decide +kernel
theorem dX12_ahead_121 : decode cX12_ahead 121 = .ok (.goto (-55), 3) := by decide +kernel
theorem dX12_ahead_124 : decode cX12_ahead 124 = .ok (.iconst (-1), 1) := by decide +kernel
theorem dX12_ahead_125 : decode cX12_ahead 125 = .ok (.istore_n 3, 1) := by decide +kernel
theorem dX12_ahead_126 : decode cX12_ahead 126 = .ok (.iconst (-1), 1) := by decide +kernel
theorem dX12_ahead_127 : decode cX12_ahead 127 = .ok (.istore 4, 2) := by decide +kernel
theorem dX12_ahead_129 : decode cX12_ahead 129 = .ok (.iconst (-1), 1) := by decide +kernel
theorem dX12_ahead_130 : decode cX12_ahead 130 = .ok (.istore 5, 2) := by decide +kernel
theorem dX12_ahead_132 : decode cX12_ahead 132 = .ok (.iconst 0, 1) := by decide +kernel
theorem dX12_ahead_133 : decode cX12_ahead 133 = .ok (.istore 6, 2) := by decide +kernel
theorem dX12_ahead_135 : decode cX12_ahead 135 = .ok (.iload 6, 2) := by decide +kernel
theorem dX12_ahead_137 : decode cX12_ahead 137 = .ok (.aload_n 0, 1) := by decide +kernel
theorem dX12_ahead_138 : decode cX12_ahead 138 = .ok (.getfield 264, 3) := by decide +kernel
theorem dX12_ahead_141 : decode cX12_ahead 141 = .ok (.if_icmp .ge 70, 3) := by decide +kernel
theorem dX12_ahead_144 : decode cX12_ahead 144 = .ok (.aload_n 0, 1) := by decide +kernel
theorem dX12_ahead_145 : decode cX12_ahead 145 = .ok (.getfield 72, 3) := by decide +kernel
theorem dX12_ahead_148 : decode cX12_ahead 148 = .ok (.iload 6, 2) := by decide +kernel
theorem dX12_ahead_150 : decode cX12_ahead 150 = .ok (.iaload, 1) := by decide +kernel
theorem dX12_ahead_151 : decode cX12_ahead 151 = .ok (.iload_n 3, 1) := by decide +kernel
theorem dX12_ahead_152 : decode cX12_ahead 152 = .ok (.iconst (-1), 1) := by decide +kernel
theorem dX12_ahead_153 : decode cX12_ahead 153 = .ok (.if_icmp .ne 7, 3) := by decide +kernel
theorem dX12_ahead_156 : decode cX12_ahead 156 = .ok (.iconst 0, 1) := by decide +kernel
theorem dX12_ahead_157 : decode cX12_ahead 157 = .ok (.goto 9, 3) := by decide +kernel
theorem dX12_ahead_160 : decode cX12_ahead 160 = .ok (.aload_n 0, 1) := by decide +kernel
theorem dX12_ahead_161 : decode cX12_ahead 161 = .ok (.getfield 72, 3) := by decide +kernel
theorem dX12_ahead_164 : decode cX12_ahead 164 = .ok (.iload_n 3, 1) := by decide +kernel
theorem dX12_ahead_165 : decode cX12_ahead 165 = .ok (.iaload, 1) := by decide +kernel
theorem dX12_ahead_166 : decode cX12_ahead 166 = .ok (.if_icmp .le 6, 3) := by decide +kernel
theorem dX12_ahead_169 : decode cX12_ahead 169 = .ok (.iload 6, 2) := by decide +kernel
theorem dX12_ahead_171 : decode cX12_ahead 171 = .ok (.istore_n 3, 1) := by decide +kernel
theorem dX12_ahead_172 : decode cX12_ahead 172 = .ok (.iload 4, 2) := by decide +kernel
theorem dX12_ahead_174 : decode cX12_ahead 174 = .ok (.iconst (-1), 1) := by decide +kernel
theorem dX12_ahead_175 : decode cX12_ahead 175 = .ok (.if_icmp .eq 26, 3) := by decide +kernel
theorem dX12_ahead_178 : decode cX12_ahead 178 = .ok (.aload_n 0, 1) := by decide +kernel
theorem dX12_ahead_179 : decode cX12_ahead 179 = .ok (.getfield 48, 3) := by decide +kernel
theorem dX12_ahead_182 : decode cX12_ahead 182 = .ok (.bipush 112, 2) := by decide +kernel
theorem dX12_ahead_184 : decode cX12_ahead 184 = .ok (.iload 6, 2) := by decide +kernel
theorem dX12_ahead_186 : decode cX12_ahead 186 = .ok (.iadd, 1) := by decide +kernel
theorem dX12_ahead_187 : decode cX12_ahead 187 = .ok (.iaload, 1) := by decide +kernel
theorem dX12_ahead_188 : decode cX12_ahead 188 = .ok (.aload_n 0, 1) := by decide +kernel
theorem dX12_ahead_189 : decode cX12_ahead 189 = .ok (.getfield 48, 3) := by decide +kernel
theorem dX12_ahead_192 : decode cX12_ahead 192 = .ok (.bipush 112, 2) := by decide +kernel
theorem dX12_ahead_194 : decode cX12_ahead 194 = .ok (.iload 4, 2) := by decide +kernel
theorem dX12_ahead_196 : decode cX12_ahead 196 = .ok (.iadd, 1) := by decide +kernel
theorem dX12_ahead_197 : decode cX12_ahead 197 = .ok (.iaload, 1) := by decide +kernel
theorem dX12_ahead_198 : decode cX12_ahead 198 = .ok (.if_icmp .le 7, 3) := by decide +kernel
theorem dX12_ahead_201 : decode cX12_ahead 201 = .ok (.iload 6, 2) := by decide +kernel
theorem dX12_ahead_203 : decode cX12_ahead 203 = .ok (.istore 4, 2) := by decide +kernel
theorem dX12_ahead_205 : decode cX12_ahead 205 = .ok (.iinc 6 1, 3) := by decide +kernel
theorem dX12_ahead_208 : decode cX12_ahead 208 = .ok (.goto (-73), 3) := by decide +kernel
theorem dX12_ahead_211 : decode cX12_ahead 211 = .ok (.iconst 0, 1) := by decide +kernel
theorem dX12_ahead_212 : decode cX12_ahead 212 = .ok (.istore 6, 2) := by decide +kernel
theorem dX12_ahead_214 : decode cX12_ahead 214 = .ok (.iload 6, 2) := by decide +kernel
theorem dX12_ahead_216 : decode cX12_ahead 216 = .ok (.aload_n 0, 1) := by decide +kernel
theorem dX12_ahead_217 : decode cX12_ahead 217 = .ok (.getfield 48, 3) := by decide +kernel
theorem dX12_ahead_220 : decode cX12_ahead 220 = .ok (.bipush 87, 2) := by decide +kernel
theorem dX12_ahead_222 : decode cX12_ahead 222 = .ok (.iaload, 1) := by decide +kernel
theorem dX12_ahead_223 : decode cX12_ahead 223 = .ok (.if_icmp .ge 43, 3) := by decide +kernel
theorem dX12_ahead_226 : decode cX12_ahead 226 = .ok (.aload_n 0, 1) := by decide +kernel
theorem dX12_ahead_227 : decode cX12_ahead 227 = .ok (.getfield 48, 3) := by decide +kernel
theorem dX12_ahead_230 : decode cX12_ahead 230 = .ok (.sipush 148, 3) := by decide +kernel
theorem dX12_ahead_233 : decode cX12_ahead 233 = .ok (.iload 6, 2) := by decide +kernel
theorem dX12_ahead_235 : decode cX12_ahead 235 = .ok (.iadd, 1) := by decide +kernel
theorem dX12_ahead_236 : decode cX12_ahead 236 = .ok (.iaload, 1) := by decide +kernel
theorem dX12_ahead_237 : decode cX12_ahead 237 = .ok (.iload 5, 2) := by decide +kernel
theorem dX12_ahead_239 : decode cX12_ahead 239 = .ok (.if_icmp .le 17, 3) := by decide +kernel
theorem dX12_ahead_242 : decode cX12_ahead 242 = .ok (.aload_n 0, 1) := by decide +kernel
theorem dX12_ahead_243 : decode cX12_ahead 243 = .ok (.getfield 48, 3) := by decide +kernel
theorem dX12_ahead_246 : decode cX12_ahead 246 = .ok (.sipush 148, 3) := by decide +kernel
theorem dX12_ahead_249 : decode cX12_ahead 249 = .ok (.iload 6, 2) := by decide +kernel
theorem dX12_ahead_251 : decode cX12_ahead 251 = .ok (.iadd, 1) := by decide +kernel
theorem dX12_ahead_252 : decode cX12_ahead 252 = .ok (.iaload, 1) := by decide +kernel
theorem dX12_ahead_253 : decode cX12_ahead 253 = .ok (.goto 5, 3) := by decide +kernel
theorem dX12_ahead_256 : decode cX12_ahead 256 = .ok (.iload 5, 2) := by decide +kernel
theorem dX12_ahead_258 : decode cX12_ahead 258 = .ok (.istore 5, 2) := by decide +kernel
theorem dX12_ahead_260 : decode cX12_ahead 260 = .ok (.iinc 6 1, 3) := by decide +kernel
theorem dX12_ahead_263 : decode cX12_ahead 263 = .ok (.goto (-49), 3) := by decide +kernel
theorem dX12_ahead_266 : decode cX12_ahead 266 = .ok (.iload_n 2, 1) := by decide +kernel
theorem dX12_ahead_267 : decode cX12_ahead 267 = .ok (.ifCond .ne 7, 3) := by decide +kernel
theorem dX12_ahead_270 : decode cX12_ahead 270 = .ok (.iload_n 3, 1) := by decide +kernel
theorem dX12_ahead_271 : decode cX12_ahead 271 = .ok (.goto 27, 3) := by decide +kernel
theorem dX12_ahead_274 : decode cX12_ahead 274 = .ok (.iload_n 2, 1) := by decide +kernel
theorem dX12_ahead_275 : decode cX12_ahead 275 = .ok (.iconst 1, 1) := by decide +kernel
theorem dX12_ahead_276 : decode cX12_ahead 276 = .ok (.if_icmp .ne 8, 3) := by decide +kernel
theorem dX12_ahead_279 : decode cX12_ahead 279 = .ok (.iload 4, 2) := by decide +kernel
theorem dX12_ahead_281 : decode cX12_ahead 281 = .ok (.goto 17, 3) := by decide +kernel
theorem dX12_ahead_284 : decode cX12_ahead 284 = .ok (.iload_n 2, 1) := by decide +kernel
theorem dX12_ahead_285 : decode cX12_ahead 285 = .ok (.iconst 2, 1) := by decide +kernel
theorem dX12_ahead_286 : decode cX12_ahead 286 = .ok (.if_icmp .ne 8, 3) := by decide +kernel
theorem dX12_ahead_289 : decode cX12_ahead 289 = .ok (.iload 5, 2) := by decide +kernel
theorem dX12_ahead_291 : decode cX12_ahead 291 = .ok (.goto 7, 3) := by decide +kernel
theorem dX12_ahead_294 : decode cX12_ahead 294 = .ok (.aload_n 0, 1) := by decide +kernel
theorem dX12_ahead_295 : decode cX12_ahead 295 = .ok (.invokevirtual 421, 3) := by decide +kernel
theorem dX12_ahead_298 : decode cX12_ahead 298 = .ok (.ireturn, 1) := by decide +kernel
theorem dX12_toMeet_0 : decode cX12_toMeet 0 = .ok (.aload_n 0, 1) := by decide +kernel
theorem dX12_toMeet_1 : decode cX12_toMeet 1 = .ok (.iconst 0, 1) := by decide +kernel
theorem dX12_toMeet_2 : decode cX12_toMeet 2 = .ok (.putfield 96, 3) := by decide +kernel
theorem dX12_toMeet_5 : decode cX12_toMeet 5 = .ok (.aload_n 0, 1) := by decide +kernel
theorem dX12_toMeet_6 : decode cX12_toMeet 6 = .ok (.iload_n 1, 1) := by decide +kernel
theorem dX12_toMeet_7 : decode cX12_toMeet 7 = .ok (.invokevirtual 368, 3) := by decide +kernel
theorem dX12_toMeet_10 : decode cX12_toMeet 10 = .ok (.ifCond .eq 11, 3) := by decide +kernel
theorem dX12_toMeet_13 : decode cX12_toMeet 13 = .ok (.aload_n 0, 1) := by decide +kernel
theorem dX12_toMeet_14 : decode cX12_toMeet 14 = .ok (.iload_n 2, 1) := by decide +kernel
theorem dX12_toMeet_15 : decode cX12_toMeet 15 = .ok (.invokevirtual 368, 3) := by decide +kernel
theorem dX12_toMeet_18 : decode cX12_toMeet 18 = .ok (.ifCond .ne 5, 3) := by decide +kernel
theorem dX12_toMeet_21 : decode cX12_toMeet 21 = .ok (.iconst 0, 1) := by decide +kernel
theorem dX12_toMeet_22 : decode cX12_toMeet 22 = .ok (.ireturn, 1) := by decide +kernel
theorem dX12_toMeet_23 : decode cX12_toMeet 23 = .ok (.aload_n 0, 1) := by decide +kernel
theorem dX12_toMeet_24 : decode cX12_toMeet 24 = .ok (.invokevirtual 337, 3) := by decide +kernel
theorem dX12_toMeet_27 : decode cX12_toMeet 27 = .ok (.aload_n 0, 1) := by decide +kernel
theorem dX12_toMeet_28 : decode cX12_toMeet 28 = .ok (.iload_n 1, 1) := by decide +kernel
theorem dX12_toMeet_29 : decode cX12_toMeet 29 = .ok (.iload_n 2, 1) := by decide +kernel
theorem dX12_toMeet_30 : decode cX12_toMeet 30 = .ok (.invokevirtual 408, 3) := by decide +kernel
theorem dX12_toMeet_33 : decode cX12_toMeet 33 = .ok (.ifCond .eq 5, 3) := by decide +kernel
theorem dX12_toMeet_36 : decode cX12_toMeet 36 = .ok (.iconst (-1), 1) := by decide +kernel
theorem dX12_toMeet_37 : decode cX12_toMeet 37 = .ok (.ireturn, 1) := by decide +kernel
theorem dX12_toMeet_38 : decode cX12_toMeet 38 = .ok (.aload_n 0, 1) := by decide +kernel
theorem dX12_toMeet_39 : decode cX12_toMeet 39 = .ok (.iload_n 1, 1) := by decide +kernel
theorem dX12_toMeet_40 : decode cX12_toMeet 40 = .ok (.iload_n 2, 1) := by decide +kernel
theorem dX12_toMeet_41 : decode cX12_toMeet 41 = .ok (.iconst 1, 1) := by decide +kernel
theorem dX12_toMeet_42 : decode cX12_toMeet 42 = .ok (.bipush 60, 2) := by decide +kernel
theorem dX12_toMeet_44 : decode cX12_toMeet 44 = .ok (.invokevirtual 411, 3) := by decide +kernel
theorem dX12_toMeet_47 : decode cX12_toMeet 47 = .ok (.istore_n 3, 1) := by decide +kernel
theorem dX12_toMeet_48 : decode cX12_toMeet 48 = .ok (.iconst (-1), 1) := by decide +kernel
theorem dX12_toMeet_49 : decode cX12_toMeet 49 = .ok (.istore 4, 2) := by decide +kernel
theorem dX12_toMeet_51 : decode cX12_toMeet 51 = .ok (.iconst 0, 1) := by decide +kernel
theorem dX12_toMeet_52 : decode cX12_toMeet 52 = .ok (.istore 5, 2) := by decide +kernel
theorem dX12_toMeet_54 : decode cX12_toMeet 54 = .ok (.iload 5, 2) := by decide +kernel
theorem dX12_toMeet_56 : decode cX12_toMeet 56 = .ok (.aload_n 0, 1) := by decide +kernel
theorem dX12_toMeet_57 : decode cX12_toMeet 57 = .ok (.getfield 264, 3) := by decide +kernel
theorem dX12_toMeet_60 : decode cX12_toMeet 60 = .ok (.if_icmp .ge 105, 3) := by decide +kernel
theorem dX12_toMeet_63 : decode cX12_toMeet 63 = .ok (.iconst 0, 1) := by decide +kernel
theorem dX12_toMeet_64 : decode cX12_toMeet 64 = .ok (.istore 6, 2) := by decide +kernel
theorem dX12_toMeet_66 : decode cX12_toMeet 66 = .ok (.iload 6, 2) := by decide +kernel
theorem dX12_toMeet_68 : decode cX12_toMeet 68 = .ok (.aload_n 0, 1) := by decide +kernel
theorem dX12_toMeet_69 : decode cX12_toMeet 69 = .ok (.getfield 48, 3) := by decide +kernel
theorem dX12_toMeet_72 : decode cX12_toMeet 72 = .ok (.iconst 1, 1) := by decide +kernel
theorem dX12_toMeet_73 : decode cX12_toMeet 73 = .ok (.iaload, 1) := by decide +kernel
theorem dX12_toMeet_74 : decode cX12_toMeet 74 = .ok (.if_icmp .ge 85, 3) := by decide +kernel
theorem dX12_toMeet_77 : decode cX12_toMeet 77 = .ok (.aload_n 0, 1) := by decide +kernel
theorem dX12_toMeet_78 : decode cX12_toMeet 78 = .ok (.getfield 48, 3) := by decide +kernel
theorem dX12_toMeet_81 : decode cX12_toMeet 81 = .ok (.iconst 2, 1) := by decide +kernel
theorem dX12_toMeet_82 : decode cX12_toMeet 82 = .ok (.iload 5, 2) := by decide +kernel
theorem dX12_toMeet_84 : decode cX12_toMeet 84 = .ok (.iadd, 1) := by decide +kernel
theorem dX12_toMeet_85 : decode cX12_toMeet 85 = .ok (.iaload, 1) := by decide +kernel
theorem dX12_toMeet_86 : decode cX12_toMeet 86 = .ok (.iload 6, 2) := by decide +kernel
theorem dX12_toMeet_88 : decode cX12_toMeet 88 = .ok (.if_icmp .ne 6, 3) := by decide +kernel
theorem dX12_toMeet_91 : decode cX12_toMeet 91 = .ok (.goto 62, 3) := by decide +kernel
theorem dX12_toMeet_94 : decode cX12_toMeet 94 = .ok (.aload_n 0, 1) := by decide +kernel
theorem dX12_toMeet_95 : decode cX12_toMeet 95 = .ok (.invokevirtual 337, 3) := by decide +kernel
theorem dX12_toMeet_98 : decode cX12_toMeet 98 = .ok (.aload_n 0, 1) := by decide +kernel
theorem dX12_toMeet_99 : decode cX12_toMeet 99 = .ok (.bipush 86, 2) := by decide +kernel
theorem dX12_toMeet_101 : decode cX12_toMeet 101 = .ok (.iload 5, 2) := by decide +kernel
theorem dX12_toMeet_103 : decode cX12_toMeet 103 = .ok (.iload 6, 2) := by decide +kernel
theorem dX12_toMeet_105 : decode cX12_toMeet 105 = .ok (.invokevirtual 392, 3) := by decide +kernel
theorem dX12_toMeet_108 : decode cX12_toMeet 108 = .ok (.aload_n 0, 1) := by decide +kernel
theorem dX12_toMeet_109 : decode cX12_toMeet 109 = .ok (.iload_n 1, 1) := by decide +kernel
theorem dX12_toMeet_110 : decode cX12_toMeet 110 = .ok (.iload_n 2, 1) := by decide +kernel
theorem dX12_toMeet_111 : decode cX12_toMeet 111 = .ok (.invokevirtual 408, 3) := by decide +kernel
theorem dX12_toMeet_114 : decode cX12_toMeet 114 = .ok (.ifCond .eq 6, 3) := by decide +kernel
theorem dX12_toMeet_117 : decode cX12_toMeet 117 = .ok (.goto 36, 3) := by decide +kernel
theorem dX12_toMeet_120 : decode cX12_toMeet 120 = .ok (.aload_n 0, 1) := by decide +kernel
theorem dX12_toMeet_121 : decode cX12_toMeet 121 = .ok (.iload_n 1, 1) := by decide +kernel
theorem dX12_toMeet_122 : decode cX12_toMeet 122 = .ok (.iload_n 2, 1) := by decide +kernel
theorem dX12_toMeet_123 : decode cX12_toMeet 123 = .ok (.iconst 1, 1) := by decide +kernel
theorem dX12_toMeet_124 : decode cX12_toMeet 124 = .ok (.bipush 60, 2) := by decide +kernel
theorem dX12_toMeet_126 : decode cX12_toMeet 126 = .ok (.invokevirtual 411, 3) := by decide +kernel
theorem dX12_toMeet_129 : decode cX12_toMeet 129 = .ok (.istore 7, 2) := by decide +kernel
theorem dX12_toMeet_131 : decode cX12_toMeet 131 = .ok (.iload 7, 2) := by decide +kernel
theorem dX12_toMeet_133 : decode cX12_toMeet 133 = .ok (.iload_n 3, 1) := by decide +kernel
theorem dX12_toMeet_134 : decode cX12_toMeet 134 = .ok (.if_icmp .lt 6, 3) := by decide +kernel
theorem dX12_toMeet_137 : decode cX12_toMeet 137 = .ok (.goto 16, 3) := by decide +kernel
theorem dX12_toMeet_140 : decode cX12_toMeet 140 = .ok (.bipush 100, 2) := by decide +kernel
theorem dX12_toMeet_142 : decode cX12_toMeet 142 = .ok (.iload 5, 2) := by decide +kernel
theorem dX12_toMeet_144 : decode cX12_toMeet 144 = .ok (.imul, 1) := by decide +kernel
theorem dX12_toMeet_145 : decode cX12_toMeet 145 = .ok (.iload 6, 2) := by decide +kernel
theorem dX12_toMeet_147 : decode cX12_toMeet 147 = .ok (.iadd, 1) := by decide +kernel
theorem dX12_toMeet_148 : decode cX12_toMeet 148 = .ok (.istore 4, 2) := by decide +kernel
theorem dX12_toMeet_150 : decode cX12_toMeet 150 = .ok (.iload 7, 2) := by decide +kernel
theorem dX12_toMeet_152 : decode cX12_toMeet 152 = .ok (.istore_n 3, 1) := by decide +kernel
theorem dX12_toMeet_153 : decode cX12_toMeet 153 = .ok (.iinc 6 1, 3) := by decide +kernel
theorem dX12_toMeet_156 : decode cX12_toMeet 156 = .ok (.goto (-90), 3) := by decide +kernel
theorem dX12_toMeet_159 : decode cX12_toMeet 159 = .ok (.iinc 5 1, 3) := by decide +kernel
theorem dX12_toMeet_162 : decode cX12_toMeet 162 = .ok (.goto (-108), 3) := by decide +kernel
theorem dX12_toMeet_165 : decode cX12_toMeet 165 = .ok (.iload 4, 2) := by decide +kernel
theorem dX12_toMeet_167 : decode cX12_toMeet 167 = .ok (.ireturn, 1) := by decide +kernel
theorem dX12_toJoin_0 : decode cX12_toJoin 0 = .ok (.aload_n 0, 1) := by decide +kernel
theorem dX12_toJoin_1 : decode cX12_toJoin 1 = .ok (.iconst 0, 1) := by decide +kernel
theorem dX12_toJoin_2 : decode cX12_toJoin 2 = .ok (.putfield 96, 3) := by decide +kernel
theorem dX12_toJoin_5 : decode cX12_toJoin 5 = .ok (.aload_n 0, 1) := by decide +kernel
theorem dX12_toJoin_6 : decode cX12_toJoin 6 = .ok (.invokevirtual 337, 3) := by decide +kernel
theorem dX12_toJoin_9 : decode cX12_toJoin 9 = .ok (.aload_n 0, 1) := by decide +kernel
theorem dX12_toJoin_10 : decode cX12_toJoin 10 = .ok (.invokevirtual 424, 3) := by decide +kernel
theorem dX12_toJoin_13 : decode cX12_toJoin 13 = .ok (.istore_n 1, 1) := by decide +kernel
theorem dX12_toJoin_14 : decode cX12_toJoin 14 = .ok (.iconst (-1), 1) := by decide +kernel
theorem dX12_toJoin_15 : decode cX12_toJoin 15 = .ok (.istore_n 2, 1) := by decide +kernel
theorem dX12_toJoin_16 : decode cX12_toJoin 16 = .ok (.iconst 0, 1) := by decide +kernel
theorem dX12_toJoin_17 : decode cX12_toJoin 17 = .ok (.istore_n 3, 1) := by decide +kernel
theorem dX12_toJoin_18 : decode cX12_toJoin 18 = .ok (.iload_n 3, 1) := by decide +kernel
theorem dX12_toJoin_19 : decode cX12_toJoin 19 = .ok (.aload_n 0, 1) := by decide +kernel
theorem dX12_toJoin_20 : decode cX12_toJoin 20 = .ok (.getfield 48, 3) := by decide +kernel
theorem dX12_toJoin_23 : decode cX12_toJoin 23 = .ok (.iconst 1, 1) := by decide +kernel
theorem dX12_toJoin_24 : decode cX12_toJoin 24 = .ok (.iaload, 1) := by decide +kernel
theorem dX12_toJoin_25 : decode cX12_toJoin 25 = .ok (.if_icmp .ge 77, 3) := by decide +kernel
theorem dX12_toJoin_28 : decode cX12_toJoin 28 = .ok (.iconst 0, 1) := by decide +kernel
theorem dX12_toJoin_29 : decode cX12_toJoin 29 = .ok (.istore 4, 2) := by decide +kernel
theorem dX12_toJoin_31 : decode cX12_toJoin 31 = .ok (.iload 4, 2) := by decide +kernel
theorem dX12_toJoin_33 : decode cX12_toJoin 33 = .ok (.aload_n 0, 1) := by decide +kernel
theorem dX12_toJoin_34 : decode cX12_toJoin 34 = .ok (.getfield 48, 3) := by decide +kernel
theorem dX12_toJoin_37 : decode cX12_toJoin 37 = .ok (.iconst 1, 1) := by decide +kernel
theorem dX12_toJoin_38 : decode cX12_toJoin 38 = .ok (.iaload, 1) := by decide +kernel
theorem dX12_toJoin_39 : decode cX12_toJoin 39 = .ok (.if_icmp .ge 57, 3) := by decide +kernel
theorem dX12_toJoin_42 : decode cX12_toJoin 42 = .ok (.iload_n 3, 1) := by decide +kernel
theorem dX12_toJoin_43 : decode cX12_toJoin 43 = .ok (.iload 4, 2) := by decide +kernel
theorem dX12_toJoin_45 : decode cX12_toJoin 45 = .ok (.if_icmp .ne 6, 3) := by decide +kernel
theorem dX12_toJoin_48 : decode cX12_toJoin 48 = .ok (.goto 42, 3) := by decide +kernel
theorem dX12_toJoin_51 : decode cX12_toJoin 51 = .ok (.aload_n 0, 1) := by decide +kernel
theorem dX12_toJoin_52 : decode cX12_toJoin 52 = .ok (.invokevirtual 337, 3) := by decide +kernel
theorem dX12_toJoin_55 : decode cX12_toJoin 55 = .ok (.aload_n 0, 1) := by decide +kernel
theorem dX12_toJoin_56 : decode cX12_toJoin 56 = .ok (.bipush 86, 2) := by decide +kernel
theorem dX12_toJoin_58 : decode cX12_toJoin 58 = .ok (.iload_n 3, 1) := by decide +kernel
theorem dX12_toJoin_59 : decode cX12_toJoin 59 = .ok (.iload 4, 2) := by decide +kernel
theorem dX12_toJoin_61 : decode cX12_toJoin 61 = .ok (.invokevirtual 399, 3) := by decide +kernel
theorem dX12_toJoin_64 : decode cX12_toJoin 64 = .ok (.aload_n 0, 1) := by decide +kernel
theorem dX12_toJoin_65 : decode cX12_toJoin 65 = .ok (.invokevirtual 424, 3) := by decide +kernel
theorem dX12_toJoin_68 : decode cX12_toJoin 68 = .ok (.istore 5, 2) := by decide +kernel
theorem dX12_toJoin_70 : decode cX12_toJoin 70 = .ok (.iload 5, 2) := by decide +kernel
theorem dX12_toJoin_72 : decode cX12_toJoin 72 = .ok (.iload_n 1, 1) := by decide +kernel
theorem dX12_toJoin_73 : decode cX12_toJoin 73 = .ok (.if_icmp .lt 6, 3) := by decide +kernel
theorem dX12_toJoin_76 : decode cX12_toJoin 76 = .ok (.goto 14, 3) := by decide +kernel
theorem dX12_toJoin_79 : decode cX12_toJoin 79 = .ok (.bipush 100, 2) := by decide +kernel
theorem dX12_toJoin_81 : decode cX12_toJoin 81 = .ok (.iload_n 3, 1) := by decide +kernel
theorem dX12_toJoin_82 : decode cX12_toJoin 82 = .ok (.imul, 1) := by decide +kernel
theorem dX12_toJoin_83 : decode cX12_toJoin 83 = .ok (.iload 4, 2) := by decide +kernel
theorem dX12_toJoin_85 : decode cX12_toJoin 85 = .ok (.iadd, 1) := by decide +kernel
theorem dX12_toJoin_86 : decode cX12_toJoin 86 = .ok (.istore_n 2, 1) := by decide +kernel
theorem dX12_toJoin_87 : decode cX12_toJoin 87 = .ok (.iload 5, 2) := by decide +kernel
theorem dX12_toJoin_89 : decode cX12_toJoin 89 = .ok (.istore_n 1, 1) := by decide +kernel
theorem dX12_toJoin_90 : decode cX12_toJoin 90 = .ok (.iinc 4 1, 3) := by decide +kernel
theorem dX12_toJoin_93 : decode cX12_toJoin 93 = .ok (.goto (-62), 3) := by decide +kernel
theorem dX12_toJoin_96 : decode cX12_toJoin 96 = .ok (.iinc 3 1, 3) := by decide +kernel
theorem dX12_toJoin_99 : decode cX12_toJoin 99 = .ok (.goto (-81), 3) := by decide +kernel
theorem dX12_toJoin_102 : decode cX12_toJoin 102 = .ok (.iload_n 2, 1) := by decide +kernel
theorem dX12_toJoin_103 : decode cX12_toJoin 103 = .ok (.ireturn, 1) := by decide +kernel
theorem dX12_canPair_0 : decode cX12_canPair 0 = .ok (.iload_n 1, 1) := by decide +kernel
theorem dX12_canPair_1 : decode cX12_canPair 1 = .ok (.iload_n 2, 1) := by decide +kernel
theorem dX12_canPair_2 : decode cX12_canPair 2 = .ok (.if_icmp .eq 26, 3) := by decide +kernel
theorem dX12_canPair_5 : decode cX12_canPair 5 = .ok (.aload_n 0, 1) := by decide +kernel
theorem dX12_canPair_6 : decode cX12_canPair 6 = .ok (.getfield 48, 3) := by decide +kernel
theorem dX12_canPair_9 : decode cX12_canPair 9 = .ok (.iconst 2, 1) := by decide +kernel
theorem dX12_canPair_10 : decode cX12_canPair 10 = .ok (.iload_n 1, 1) := by decide +kernel
theorem dX12_canPair_11 : decode cX12_canPair 11 = .ok (.iadd, 1) := by decide +kernel
theorem dX12_canPair_12 : decode cX12_canPair 12 = .ok (.iaload, 1) := by decide +kernel
theorem dX12_canPair_13 : decode cX12_canPair 13 = .ok (.aload_n 0, 1) := by decide +kernel
theorem dX12_canPair_14 : decode cX12_canPair 14 = .ok (.getfield 48, 3) := by decide +kernel
theorem dX12_canPair_17 : decode cX12_canPair 17 = .ok (.iconst 2, 1) := by decide +kernel
theorem dX12_canPair_18 : decode cX12_canPair 18 = .ok (.iload_n 2, 1) := by decide +kernel
theorem dX12_canPair_19 : decode cX12_canPair 19 = .ok (.iadd, 1) := by decide +kernel
theorem dX12_canPair_20 : decode cX12_canPair 20 = .ok (.iaload, 1) := by decide +kernel
theorem dX12_canPair_21 : decode cX12_canPair 21 = .ok (.if_icmp .ne 7, 3) := by decide +kernel
theorem dX12_canPair_24 : decode cX12_canPair 24 = .ok (.iconst 1, 1) := by decide +kernel
theorem dX12_canPair_25 : decode cX12_canPair 25 = .ok (.goto 4, 3) := by decide +kernel
theorem dX12_canPair_28 : decode cX12_canPair 28 = .ok (.iconst 0, 1) := by decide +kernel
theorem dX12_canPair_29 : decode cX12_canPair 29 = .ok (.ireturn, 1) := by decide +kernel
theorem dX12_pairs_0 : decode cX12_pairs 0 = .ok (.aload_n 0, 1) := by decide +kernel
theorem dX12_pairs_1 : decode cX12_pairs 1 = .ok (.getfield 48, 3) := by decide +kernel
theorem dX12_pairs_4 : decode cX12_pairs 4 = .ok (.bipush 50, 2) := by decide +kernel
theorem dX12_pairs_6 : decode cX12_pairs 6 = .ok (.iload_n 2, 1) := by decide +kernel
theorem dX12_pairs_7 : decode cX12_pairs 7 = .ok (.iadd, 1) := by decide +kernel
theorem dX12_pairs_8 : decode cX12_pairs 8 = .ok (.iaload, 1) := by decide +kernel
theorem dX12_pairs_9 : decode cX12_pairs 9 = .ok (.aload_n 0, 1) := by decide +kernel
theorem dX12_pairs_10 : decode cX12_pairs 10 = .ok (.getfield 48, 3) := by decide +kernel
theorem dX12_pairs_13 : decode cX12_pairs 13 = .ok (.bipush 50, 2) := by decide +kernel
theorem dX12_pairs_15 : decode cX12_pairs 15 = .ok (.iload_n 3, 1) := by decide +kernel
theorem dX12_pairs_16 : decode cX12_pairs 16 = .ok (.iadd, 1) := by decide +kernel
theorem dX12_pairs_17 : decode cX12_pairs 17 = .ok (.iaload, 1) := by decide +kernel
theorem dX12_pairs_18 : decode cX12_pairs 18 = .ok (.invokestatic 427, 3) := by decide +kernel
theorem dX12_pairs_21 : decode cX12_pairs 21 = .ok (.aload_n 0, 1) := by decide +kernel
theorem dX12_pairs_22 : decode cX12_pairs 22 = .ok (.getfield 75, 3) := by decide +kernel
theorem dX12_pairs_25 : decode cX12_pairs 25 = .ok (.iload_n 1, 1) := by decide +kernel
theorem dX12_pairs_26 : decode cX12_pairs 26 = .ok (.iconst 1, 1) := by decide +kernel
theorem dX12_pairs_27 : decode cX12_pairs 27 = .ok (.iload_n 2, 1) := by decide +kernel
theorem dX12_pairs_28 : decode cX12_pairs 28 = .ok (.ishl, 1) := by decide +kernel
theorem dX12_pairs_29 : decode cX12_pairs 29 = .ok (.ior, 1) := by decide +kernel
theorem dX12_pairs_30 : decode cX12_pairs 30 = .ok (.iconst 1, 1) := by decide +kernel
theorem dX12_pairs_31 : decode cX12_pairs 31 = .ok (.iload_n 3, 1) := by decide +kernel
theorem dX12_pairs_32 : decode cX12_pairs 32 = .ok (.ishl, 1) := by decide +kernel
theorem dX12_pairs_33 : decode cX12_pairs 33 = .ok (.ior, 1) := by decide +kernel
theorem dX12_pairs_34 : decode cX12_pairs 34 = .ok (.iaload, 1) := by decide +kernel
theorem dX12_pairs_35 : decode cX12_pairs 35 = .ok (.iadd, 1) := by decide +kernel
theorem dX12_pairs_36 : decode cX12_pairs 36 = .ok (.ireturn, 1) := by decide +kernel
theorem dX12_lowestOut_0 : decode cX12_lowestOut 0 = .ok (.iconst 0, 1) := by decide +kernel
theorem dX12_lowestOut_1 : decode cX12_lowestOut 1 = .ok (.istore_n 1, 1) := by decide +kernel
theorem dX12_lowestOut_2 : decode cX12_lowestOut 2 = .ok (.iload_n 0, 1) := by decide +kernel
theorem dX12_lowestOut_3 : decode cX12_lowestOut 3 = .ok (.iload_n 1, 1) := by decide +kernel
theorem dX12_lowestOut_4 : decode cX12_lowestOut 4 = .ok (.ishr, 1) := by decide +kernel
theorem dX12_lowestOut_5 : decode cX12_lowestOut 5 = .ok (.iconst 1, 1) := by decide +kernel
theorem dX12_lowestOut_6 : decode cX12_lowestOut 6 = .ok (.iand, 1) := by decide +kernel
theorem dX12_lowestOut_7 : decode cX12_lowestOut 7 = .ok (.iconst 1, 1) := by decide +kernel
theorem dX12_lowestOut_8 : decode cX12_lowestOut 8 = .ok (.if_icmp .ne 9, 3) := by decide +kernel
theorem dX12_lowestOut_11 : decode cX12_lowestOut 11 = .ok (.iinc 1 1, 3) := by decide +kernel
theorem dX12_lowestOut_14 : decode cX12_lowestOut 14 = .ok (.goto (-12), 3) := by decide +kernel
theorem dX12_lowestOut_17 : decode cX12_lowestOut 17 = .ok (.iload_n 1, 1) := by decide +kernel
theorem dX12_lowestOut_18 : decode cX12_lowestOut 18 = .ok (.ireturn, 1) := by decide +kernel
theorem dX12_laysPairs_0 : decode cX12_laysPairs 0 = .ok (.iconst 1, 1) := by decide +kernel
theorem dX12_laysPairs_1 : decode cX12_laysPairs 1 = .ok (.aload_n 0, 1) := by decide +kernel
theorem dX12_laysPairs_2 : decode cX12_laysPairs 2 = .ok (.getfield 264, 3) := by decide +kernel
theorem dX12_laysPairs_5 : decode cX12_laysPairs 5 = .ok (.ishl, 1) := by decide +kernel
theorem dX12_laysPairs_6 : decode cX12_laysPairs 6 = .ok (.iconst 1, 1) := by decide +kernel
theorem dX12_laysPairs_7 : decode cX12_laysPairs 7 = .ok (.isub, 1) := by decide +kernel
theorem dX12_laysPairs_8 : decode cX12_laysPairs 8 = .ok (.istore_n 1, 1) := by decide +kernel
theorem dX12_laysPairs_9 : decode cX12_laysPairs 9 = .ok (.aload_n 0, 1) := by decide +kernel
theorem dX12_laysPairs_10 : decode cX12_laysPairs 10 = .ok (.getfield 75, 3) := by decide +kernel
theorem dX12_laysPairs_13 : decode cX12_laysPairs 13 = .ok (.iload_n 1, 1) := by decide +kernel
theorem dX12_laysPairs_14 : decode cX12_laysPairs 14 = .ok (.iconst 0, 1) := by decide +kernel
theorem dX12_laysPairs_15 : decode cX12_laysPairs 15 = .ok (.iastore, 1) := by decide +kernel
theorem dX12_laysPairs_16 : decode cX12_laysPairs 16 = .ok (.iload_n 1, 1) := by decide +kernel
theorem dX12_laysPairs_17 : decode cX12_laysPairs 17 = .ok (.iconst 1, 1) := by decide +kernel
theorem dX12_laysPairs_18 : decode cX12_laysPairs 18 = .ok (.isub, 1) := by decide +kernel
theorem dX12_laysPairs_19 : decode cX12_laysPairs 19 = .ok (.istore_n 2, 1) := by decide +kernel
theorem dX12_laysPairs_20 : decode cX12_laysPairs 20 = .ok (.iload_n 2, 1) := by decide +kernel
theorem dX12_laysPairs_21 : decode cX12_laysPairs 21 = .ok (.ifCond .lt 92, 3) := by decide +kernel
theorem dX12_laysPairs_24 : decode cX12_laysPairs 24 = .ok (.iload_n 2, 1) := by decide +kernel
theorem dX12_laysPairs_25 : decode cX12_laysPairs 25 = .ok (.invokestatic 430, 3) := by decide +kernel
theorem dX12_laysPairs_28 : decode cX12_laysPairs 28 = .ok (.istore_n 3, 1) := by decide +kernel
theorem dX12_laysPairs_29 : decode cX12_laysPairs 29 = .ok (.sipush 1000, 3) := by decide +kernel
theorem dX12_laysPairs_32 : decode cX12_laysPairs 32 = .ok (.aload_n 0, 1) := by decide +kernel
theorem dX12_laysPairs_33 : decode cX12_laysPairs 33 = .ok (.getfield 75, 3) := by decide +kernel
theorem dX12_laysPairs_36 : decode cX12_laysPairs 36 = .ok (.iload_n 2, 1) := by decide +kernel
theorem dX12_laysPairs_37 : decode cX12_laysPairs 37 = .ok (.iconst 1, 1) := by decide +kernel
theorem dX12_laysPairs_38 : decode cX12_laysPairs 38 = .ok (.iload_n 3, 1) := by decide +kernel
theorem dX12_laysPairs_39 : decode cX12_laysPairs 39 = .ok (.ishl, 1) := by decide +kernel
theorem dX12_laysPairs_40 : decode cX12_laysPairs 40 = .ok (.ior, 1) := by decide +kernel
theorem dX12_laysPairs_41 : decode cX12_laysPairs 41 = .ok (.iaload, 1) := by decide +kernel
theorem dX12_laysPairs_42 : decode cX12_laysPairs 42 = .ok (.iadd, 1) := by decide +kernel
theorem dX12_laysPairs_43 : decode cX12_laysPairs 43 = .ok (.istore 4, 2) := by decide +kernel
theorem dX12_laysPairs_45 : decode cX12_laysPairs 45 = .ok (.iload_n 3, 1) := by decide +kernel
theorem dX12_laysPairs_46 : decode cX12_laysPairs 46 = .ok (.iconst 1, 1) := by decide +kernel
theorem dX12_laysPairs_47 : decode cX12_laysPairs 47 = .ok (.iadd, 1) := by decide +kernel
theorem dX12_laysPairs_48 : decode cX12_laysPairs 48 = .ok (.istore 5, 2) := by decide +kernel
theorem dX12_laysPairs_50 : decode cX12_laysPairs 50 = .ok (.iload 5, 2) := by decide +kernel
theorem dX12_laysPairs_52 : decode cX12_laysPairs 52 = .ok (.aload_n 0, 1) := by decide +kernel
theorem dX12_laysPairs_53 : decode cX12_laysPairs 53 = .ok (.getfield 264, 3) := by decide +kernel
theorem dX12_laysPairs_56 : decode cX12_laysPairs 56 = .ok (.if_icmp .ge 43, 3) := by decide +kernel
theorem dX12_laysPairs_59 : decode cX12_laysPairs 59 = .ok (.iload_n 2, 1) := by decide +kernel
theorem dX12_laysPairs_60 : decode cX12_laysPairs 60 = .ok (.iload 5, 2) := by decide +kernel
theorem dX12_laysPairs_62 : decode cX12_laysPairs 62 = .ok (.ishr, 1) := by decide +kernel
theorem dX12_laysPairs_63 : decode cX12_laysPairs 63 = .ok (.iconst 1, 1) := by decide +kernel
theorem dX12_laysPairs_64 : decode cX12_laysPairs 64 = .ok (.iand, 1) := by decide +kernel
theorem dX12_laysPairs_65 : decode cX12_laysPairs 65 = .ok (.ifCond .ne 28, 3) := by decide +kernel
theorem dX12_laysPairs_68 : decode cX12_laysPairs 68 = .ok (.aload_n 0, 1) := by decide +kernel
theorem dX12_laysPairs_69 : decode cX12_laysPairs 69 = .ok (.iload_n 3, 1) := by decide +kernel
theorem dX12_laysPairs_70 : decode cX12_laysPairs 70 = .ok (.iload 5, 2) := by decide +kernel
theorem dX12_laysPairs_72 : decode cX12_laysPairs 72 = .ok (.invokevirtual 433, 3) := by decide +kernel
theorem dX12_laysPairs_75 : decode cX12_laysPairs 75 = .ok (.ifCond .eq 18, 3) := by decide +kernel
theorem dX12_laysPairs_78 : decode cX12_laysPairs 78 = .ok (.iload 4, 2) := by decide +kernel
theorem dX12_laysPairs_80 : decode cX12_laysPairs 80 = .ok (.aload_n 0, 1) := by decide +kernel
theorem dX12_laysPairs_81 : decode cX12_laysPairs 81 = .ok (.iload_n 2, 1) := by decide +kernel
theorem dX12_laysPairs_82 : decode cX12_laysPairs 82 = .ok (.iload_n 3, 1) := by decide +kernel
theorem dX12_laysPairs_83 : decode cX12_laysPairs 83 = .ok (.iload 5, 2) := by decide +kernel
theorem dX12_laysPairs_85 : decode cX12_laysPairs 85 = .ok (.invokevirtual 436, 3) := by decide +kernel
theorem dX12_laysPairs_88 : decode cX12_laysPairs 88 = .ok (.invokestatic 439, 3) := by decide +kernel
theorem dX12_laysPairs_91 : decode cX12_laysPairs 91 = .ok (.istore 4, 2) := by decide +kernel
theorem dX12_laysPairs_93 : decode cX12_laysPairs 93 = .ok (.iinc 5 1, 3) := by decide +kernel
theorem dX12_laysPairs_96 : decode cX12_laysPairs 96 = .ok (.goto (-46), 3) := by decide +kernel
theorem dX12_laysPairs_99 : decode cX12_laysPairs 99 = .ok (.aload_n 0, 1) := by decide +kernel
theorem dX12_laysPairs_100 : decode cX12_laysPairs 100 = .ok (.getfield 75, 3) := by decide +kernel
theorem dX12_laysPairs_103 : decode cX12_laysPairs 103 = .ok (.iload_n 2, 1) := by decide +kernel
theorem dX12_laysPairs_104 : decode cX12_laysPairs 104 = .ok (.iload 4, 2) := by decide +kernel
theorem dX12_laysPairs_106 : decode cX12_laysPairs 106 = .ok (.iastore, 1) := by decide +kernel
theorem dX12_laysPairs_107 : decode cX12_laysPairs 107 = .ok (.iinc 2 (-1), 3) := by decide +kernel
theorem dX12_laysPairs_110 : decode cX12_laysPairs 110 = .ok (.goto (-90), 3) := by decide +kernel
theorem dX12_laysPairs_113 : decode cX12_laysPairs 113 = .ok (.return_, 1) := by decide +kernel
theorem dX12_partners_0 : decode cX12_partners 0 = .ok (.aload_n 0, 1) := by decide +kernel
theorem dX12_partners_1 : decode cX12_partners 1 = .ok (.iconst 0, 1) := by decide +kernel
theorem dX12_partners_2 : decode cX12_partners 2 = .ok (.putfield 96, 3) := by decide +kernel
theorem dX12_partners_5 : decode cX12_partners 5 = .ok (.aload_n 0, 1) := by decide +kernel
theorem dX12_partners_6 : decode cX12_partners 6 = .ok (.iload_n 1, 1) := by decide +kernel
theorem dX12_partners_7 : decode cX12_partners 7 = .ok (.iconst 1, 1) := by decide +kernel
theorem dX12_partners_8 : decode cX12_partners 8 = .ok (.invokevirtual 371, 3) := by decide +kernel
theorem dX12_partners_11 : decode cX12_partners 11 = .ok (.ifCond .ne 5, 3) := by decide +kernel
theorem dX12_partners_14 : decode cX12_partners 14 = .ok (.iconst 0, 1) := by decide +kernel
theorem dX12_partners_15 : decode cX12_partners 15 = .ok (.ireturn, 1) := by decide +kernel
theorem dX12_partners_16 : decode cX12_partners 16 = .ok (.aload_n 0, 1) := by decide +kernel
theorem dX12_partners_17 : decode cX12_partners 17 = .ok (.invokevirtual 442, 3) := by decide +kernel
theorem dX12_partners_20 : decode cX12_partners 20 = .ok (.iload_n 1, 1) := by decide +kernel
theorem dX12_partners_21 : decode cX12_partners 21 = .ok (.ifCond .ne 23, 3) := by decide +kernel
theorem dX12_partners_24 : decode cX12_partners 24 = .ok (.aload_n 0, 1) := by decide +kernel
theorem dX12_partners_25 : decode cX12_partners 25 = .ok (.getfield 264, 3) := by decide +kernel
theorem dX12_partners_28 : decode cX12_partners 28 = .ok (.aload_n 0, 1) := by decide +kernel
theorem dX12_partners_29 : decode cX12_partners 29 = .ok (.getfield 75, 3) := by decide +kernel
theorem dX12_partners_32 : decode cX12_partners 32 = .ok (.iconst 0, 1) := by decide +kernel
theorem dX12_partners_33 : decode cX12_partners 33 = .ok (.iaload, 1) := by decide +kernel
theorem dX12_partners_34 : decode cX12_partners 34 = .ok (.sipush 1000, 3) := by decide +kernel
theorem dX12_partners_37 : decode cX12_partners 37 = .ok (.idiv, 1) := by decide +kernel
theorem dX12_partners_38 : decode cX12_partners 38 = .ok (.isub, 1) := by decide +kernel
theorem dX12_partners_39 : decode cX12_partners 39 = .ok (.iconst 2, 1) := by decide +kernel
theorem dX12_partners_40 : decode cX12_partners 40 = .ok (.idiv, 1) := by decide +kernel
theorem dX12_partners_41 : decode cX12_partners 41 = .ok (.goto 13, 3) := by decide +kernel
theorem dX12_partners_44 : decode cX12_partners 44 = .ok (.aload_n 0, 1) := by decide +kernel
theorem dX12_partners_45 : decode cX12_partners 45 = .ok (.getfield 75, 3) := by decide +kernel
theorem dX12_partners_48 : decode cX12_partners 48 = .ok (.iconst 0, 1) := by decide +kernel
theorem dX12_partners_49 : decode cX12_partners 49 = .ok (.iaload, 1) := by decide +kernel
theorem dX12_partners_50 : decode cX12_partners 50 = .ok (.sipush 1000, 3) := by decide +kernel
theorem dX12_partners_53 : decode cX12_partners 53 = .ok (.irem, 1) := by decide +kernel
theorem dX12_partners_54 : decode cX12_partners 54 = .ok (.ireturn, 1) := by decide +kernel
theorem dX12_partnerOf_0 : decode cX12_partnerOf 0 = .ok (.aload_n 0, 1) := by decide +kernel
theorem dX12_partnerOf_1 : decode cX12_partnerOf 1 = .ok (.invokevirtual 442, 3) := by decide +kernel
theorem dX12_partnerOf_4 : decode cX12_partnerOf 4 = .ok (.iconst 0, 1) := by decide +kernel
theorem dX12_partnerOf_5 : decode cX12_partnerOf 5 = .ok (.istore_n 2, 1) := by decide +kernel
theorem dX12_partnerOf_6 : decode cX12_partnerOf 6 = .ok (.iconst 1, 1) := by decide +kernel
theorem dX12_partnerOf_7 : decode cX12_partnerOf 7 = .ok (.aload_n 0, 1) := by decide +kernel
theorem dX12_partnerOf_8 : decode cX12_partnerOf 8 = .ok (.getfield 264, 3) := by decide +kernel
theorem dX12_partnerOf_11 : decode cX12_partnerOf 11 = .ok (.ishl, 1) := by decide +kernel
theorem dX12_partnerOf_12 : decode cX12_partnerOf 12 = .ok (.iconst 1, 1) := by decide +kernel
theorem dX12_partnerOf_13 : decode cX12_partnerOf 13 = .ok (.isub, 1) := by decide +kernel
theorem dX12_partnerOf_14 : decode cX12_partnerOf 14 = .ok (.istore_n 3, 1) := by decide +kernel
theorem dX12_partnerOf_15 : decode cX12_partnerOf 15 = .ok (.iload_n 2, 1) := by decide +kernel
theorem dX12_partnerOf_16 : decode cX12_partnerOf 16 = .ok (.iload_n 3, 1) := by decide +kernel
theorem dX12_partnerOf_17 : decode cX12_partnerOf 17 = .ok (.if_icmp .eq 116, 3) := by decide +kernel
theorem dX12_partnerOf_20 : decode cX12_partnerOf 20 = .ok (.iload_n 2, 1) := by decide +kernel
theorem dX12_partnerOf_21 : decode cX12_partnerOf 21 = .ok (.invokestatic 430, 3) := by decide +kernel
theorem dX12_partnerOf_24 : decode cX12_partnerOf 24 = .ok (.istore 4, 2) := by decide +kernel
theorem dX12_partnerOf_26 : decode cX12_partnerOf 26 = .ok (.iconst (-1), 1) := by decide +kernel
theorem dX12_partnerOf_27 : decode cX12_partnerOf 27 = .ok (.istore 5, 2) := by decide +kernel
theorem dX12_partnerOf_29 : decode cX12_partnerOf 29 = .ok (.aload_n 0, 1) := by decide +kernel
theorem dX12_partnerOf_30 : decode cX12_partnerOf 30 = .ok (.getfield 264, 3) := by decide +kernel
theorem dX12_partnerOf_33 : decode cX12_partnerOf 33 = .ok (.iconst 1, 1) := by decide +kernel
theorem dX12_partnerOf_34 : decode cX12_partnerOf 34 = .ok (.isub, 1) := by decide +kernel
theorem dX12_partnerOf_35 : decode cX12_partnerOf 35 = .ok (.istore 6, 2) := by decide +kernel
theorem dX12_partnerOf_37 : decode cX12_partnerOf 37 = .ok (.iload 6, 2) := by decide +kernel
theorem dX12_partnerOf_39 : decode cX12_partnerOf 39 = .ok (.iload 4, 2) := by decide +kernel
theorem dX12_partnerOf_41 : decode cX12_partnerOf 41 = .ok (.if_icmp .le 51, 3) := by decide +kernel
theorem dX12_partnerOf_44 : decode cX12_partnerOf 44 = .ok (.iload_n 2, 1) := by decide +kernel
theorem dX12_partnerOf_45 : decode cX12_partnerOf 45 = .ok (.iload 6, 2) := by decide +kernel
theorem dX12_partnerOf_47 : decode cX12_partnerOf 47 = .ok (.ishr, 1) := by decide +kernel
theorem dX12_partnerOf_48 : decode cX12_partnerOf 48 = .ok (.iconst 1, 1) := by decide +kernel
theorem dX12_partnerOf_49 : decode cX12_partnerOf 49 = .ok (.iand, 1) := by decide +kernel
theorem dX12_partnerOf_50 : decode cX12_partnerOf 50 = .ok (.ifCond .ne 36, 3) := by decide +kernel
theorem dX12_partnerOf_53 : decode cX12_partnerOf 53 = .ok (.aload_n 0, 1) := by decide +kernel
theorem dX12_partnerOf_54 : decode cX12_partnerOf 54 = .ok (.iload 4, 2) := by decide +kernel
theorem dX12_partnerOf_56 : decode cX12_partnerOf 56 = .ok (.iload 6, 2) := by decide +kernel
theorem dX12_partnerOf_58 : decode cX12_partnerOf 58 = .ok (.invokevirtual 433, 3) := by decide +kernel
theorem dX12_partnerOf_61 : decode cX12_partnerOf 61 = .ok (.ifCond .eq 25, 3) := by decide +kernel
theorem dX12_partnerOf_64 : decode cX12_partnerOf 64 = .ok (.aload_n 0, 1) := by decide +kernel
theorem dX12_partnerOf_65 : decode cX12_partnerOf 65 = .ok (.iload_n 2, 1) := by decide +kernel
theorem dX12_partnerOf_66 : decode cX12_partnerOf 66 = .ok (.iload 4, 2) := by decide +kernel
theorem dX12_partnerOf_68 : decode cX12_partnerOf 68 = .ok (.iload 6, 2) := by decide +kernel
theorem dX12_partnerOf_70 : decode cX12_partnerOf 70 = .ok (.invokevirtual 436, 3) := by decide +kernel
theorem dX12_partnerOf_73 : decode cX12_partnerOf 73 = .ok (.aload_n 0, 1) := by decide +kernel
theorem dX12_partnerOf_74 : decode cX12_partnerOf 74 = .ok (.getfield 75, 3) := by decide +kernel
theorem dX12_partnerOf_77 : decode cX12_partnerOf 77 = .ok (.iload_n 2, 1) := by decide +kernel
theorem dX12_partnerOf_78 : decode cX12_partnerOf 78 = .ok (.iaload, 1) := by decide +kernel
theorem dX12_partnerOf_79 : decode cX12_partnerOf 79 = .ok (.if_icmp .ne 7, 3) := by decide +kernel
theorem dX12_partnerOf_82 : decode cX12_partnerOf 82 = .ok (.iload 6, 2) := by decide +kernel
theorem dX12_partnerOf_84 : decode cX12_partnerOf 84 = .ok (.istore 5, 2) := by decide +kernel
theorem dX12_partnerOf_86 : decode cX12_partnerOf 86 = .ok (.iinc 6 (-1), 3) := by decide +kernel
theorem dX12_partnerOf_89 : decode cX12_partnerOf 89 = .ok (.goto (-52), 3) := by decide +kernel
theorem dX12_partnerOf_92 : decode cX12_partnerOf 92 = .ok (.iload 4, 2) := by decide +kernel
theorem dX12_partnerOf_94 : decode cX12_partnerOf 94 = .ok (.iload_n 1, 1) := by decide +kernel
theorem dX12_partnerOf_95 : decode cX12_partnerOf 95 = .ok (.if_icmp .ne 6, 3) := by decide +kernel
theorem dX12_partnerOf_98 : decode cX12_partnerOf 98 = .ok (.iload 5, 2) := by decide +kernel
theorem dX12_partnerOf_100 : decode cX12_partnerOf 100 = .ok (.ireturn, 1) := by decide +kernel
theorem dX12_partnerOf_101 : decode cX12_partnerOf 101 = .ok (.iload 5, 2) := by decide +kernel
theorem dX12_partnerOf_103 : decode cX12_partnerOf 103 = .ok (.iload_n 1, 1) := by decide +kernel
theorem dX12_partnerOf_104 : decode cX12_partnerOf 104 = .ok (.if_icmp .ne 6, 3) := by decide +kernel
theorem dX12_partnerOf_107 : decode cX12_partnerOf 107 = .ok (.iload 4, 2) := by decide +kernel
theorem dX12_partnerOf_109 : decode cX12_partnerOf 109 = .ok (.ireturn, 1) := by decide +kernel
theorem dX12_partnerOf_110 : decode cX12_partnerOf 110 = .ok (.iload_n 2, 1) := by decide +kernel
theorem dX12_partnerOf_111 : decode cX12_partnerOf 111 = .ok (.iconst 1, 1) := by decide +kernel
theorem dX12_partnerOf_112 : decode cX12_partnerOf 112 = .ok (.iload 4, 2) := by decide +kernel
theorem dX12_partnerOf_114 : decode cX12_partnerOf 114 = .ok (.ishl, 1) := by decide +kernel
theorem dX12_partnerOf_115 : decode cX12_partnerOf 115 = .ok (.ior, 1) := by decide +kernel
theorem dX12_partnerOf_116 : decode cX12_partnerOf 116 = .ok (.istore_n 2, 1) := by decide +kernel
theorem dX12_partnerOf_117 : decode cX12_partnerOf 117 = .ok (.iload 5, 2) := by decide +kernel
theorem dX12_partnerOf_119 : decode cX12_partnerOf 119 = .ok (.iconst (-1), 1) := by decide +kernel
theorem dX12_partnerOf_120 : decode cX12_partnerOf 120 = .ok (.if_icmp .eq 10, 3) := by decide +kernel
theorem dX12_partnerOf_123 : decode cX12_partnerOf 123 = .ok (.iload_n 2, 1) := by decide +kernel
theorem dX12_partnerOf_124 : decode cX12_partnerOf 124 = .ok (.iconst 1, 1) := by decide +kernel
theorem dX12_partnerOf_125 : decode cX12_partnerOf 125 = .ok (.iload 5, 2) := by decide +kernel
theorem dX12_partnerOf_127 : decode cX12_partnerOf 127 = .ok (.ishl, 1) := by decide +kernel
theorem dX12_partnerOf_128 : decode cX12_partnerOf 128 = .ok (.ior, 1) := by decide +kernel
theorem dX12_partnerOf_129 : decode cX12_partnerOf 129 = .ok (.istore_n 2, 1) := by decide +kernel
theorem dX12_partnerOf_130 : decode cX12_partnerOf 130 = .ok (.goto (-115), 3) := by decide +kernel
theorem dX12_partnerOf_133 : decode cX12_partnerOf 133 = .ok (.iconst (-1), 1) := by decide +kernel
theorem dX12_partnerOf_134 : decode cX12_partnerOf 134 = .ok (.ireturn, 1) := by decide +kernel
theorem dX12_halves_0 : decode cX12_halves 0 = .ok (.aload_n 0, 1) := by decide +kernel
theorem dX12_halves_1 : decode cX12_halves 1 = .ok (.iconst 0, 1) := by decide +kernel
theorem dX12_halves_2 : decode cX12_halves 2 = .ok (.putfield 96, 3) := by decide +kernel
theorem dX12_halves_5 : decode cX12_halves 5 = .ok (.aload_n 0, 1) := by decide +kernel
theorem dX12_halves_6 : decode cX12_halves 6 = .ok (.iload_n 1, 1) := by decide +kernel
theorem dX12_halves_7 : decode cX12_halves 7 = .ok (.iconst 1, 1) := by decide +kernel
theorem dX12_halves_8 : decode cX12_halves 8 = .ok (.invokevirtual 371, 3) := by decide +kernel
theorem dX12_halves_11 : decode cX12_halves 11 = .ok (.ifCond .ne 5, 3) := by decide +kernel
theorem dX12_halves_14 : decode cX12_halves 14 = .ok (.iconst 0, 1) := by decide +kernel
theorem dX12_halves_15 : decode cX12_halves 15 = .ok (.ireturn, 1) := by decide +kernel
theorem dX12_halves_16 : decode cX12_halves 16 = .ok (.iconst 0, 1) := by decide +kernel
theorem dX12_halves_17 : decode cX12_halves 17 = .ok (.istore_n 2, 1) := by decide +kernel
theorem dX12_halves_18 : decode cX12_halves 18 = .ok (.iconst 0, 1) := by decide +kernel
theorem dX12_halves_19 : decode cX12_halves 19 = .ok (.istore_n 3, 1) := by decide +kernel
theorem dX12_halves_20 : decode cX12_halves 20 = .ok (.sipush 9999, 3) := by decide +kernel
theorem dX12_halves_23 : decode cX12_halves 23 = .ok (.istore 4, 2) := by decide +kernel
theorem dX12_halves_25 : decode cX12_halves 25 = .ok (.iconst 0, 1) := by decide +kernel
theorem dX12_halves_26 : decode cX12_halves 26 = .ok (.istore 5, 2) := by decide +kernel
theorem dX12_halves_28 : decode cX12_halves 28 = .ok (.iload 5, 2) := by decide +kernel
theorem dX12_halves_30 : decode cX12_halves 30 = .ok (.aload_n 0, 1) := by decide +kernel
theorem dX12_halves_31 : decode cX12_halves 31 = .ok (.getfield 264, 3) := by decide +kernel
theorem dX12_halves_34 : decode cX12_halves 34 = .ok (.if_icmp .ge 22, 3) := by decide +kernel
theorem dX12_halves_37 : decode cX12_halves 37 = .ok (.iload_n 2, 1) := by decide +kernel
theorem dX12_halves_38 : decode cX12_halves 38 = .ok (.aload_n 0, 1) := by decide +kernel
theorem dX12_halves_39 : decode cX12_halves 39 = .ok (.getfield 48, 3) := by decide +kernel
theorem dX12_halves_42 : decode cX12_halves 42 = .ok (.bipush 50, 2) := by decide +kernel
theorem dX12_halves_44 : decode cX12_halves 44 = .ok (.iload 5, 2) := by decide +kernel
theorem dX12_halves_46 : decode cX12_halves 46 = .ok (.iadd, 1) := by decide +kernel
theorem dX12_halves_47 : decode cX12_halves 47 = .ok (.iaload, 1) := by decide +kernel
theorem dX12_halves_48 : decode cX12_halves 48 = .ok (.iadd, 1) := by decide +kernel
theorem dX12_halves_49 : decode cX12_halves 49 = .ok (.istore_n 2, 1) := by decide +kernel
theorem dX12_halves_50 : decode cX12_halves 50 = .ok (.iinc 5 1, 3) := by decide +kernel
theorem dX12_halves_53 : decode cX12_halves 53 = .ok (.goto (-25), 3) := by decide +kernel
theorem dX12_halves_56 : decode cX12_halves 56 = .ok (.iconst 1, 1) := by decide +kernel
theorem dX12_halves_57 : decode cX12_halves 57 = .ok (.istore 5, 2) := by decide +kernel
theorem dX12_halves_59 : decode cX12_halves 59 = .ok (.iload 5, 2) := by decide +kernel
theorem dX12_halves_61 : decode cX12_halves 61 = .ok (.iconst 1, 1) := by decide +kernel
theorem dX12_halves_62 : decode cX12_halves 62 = .ok (.aload_n 0, 1) := by decide +kernel
theorem dX12_halves_63 : decode cX12_halves 63 = .ok (.getfield 264, 3) := by decide +kernel
theorem dX12_halves_66 : decode cX12_halves 66 = .ok (.ishl, 1) := by decide +kernel
theorem dX12_halves_67 : decode cX12_halves 67 = .ok (.if_icmp .ge 82, 3) := by decide +kernel
theorem dX12_halves_70 : decode cX12_halves 70 = .ok (.iconst 0, 1) := by decide +kernel
theorem dX12_halves_71 : decode cX12_halves 71 = .ok (.istore 6, 2) := by decide +kernel
theorem dX12_halves_73 : decode cX12_halves 73 = .ok (.iconst 0, 1) := by decide +kernel
theorem dX12_halves_74 : decode cX12_halves 74 = .ok (.istore 7, 2) := by decide +kernel
theorem dX12_halves_76 : decode cX12_halves 76 = .ok (.iload 7, 2) := by decide +kernel
theorem dX12_halves_78 : decode cX12_halves 78 = .ok (.aload_n 0, 1) := by decide +kernel
theorem dX12_halves_79 : decode cX12_halves 79 = .ok (.getfield 264, 3) := by decide +kernel
theorem dX12_halves_82 : decode cX12_halves 82 = .ok (.if_icmp .ge 32, 3) := by decide +kernel
theorem dX12_halves_85 : decode cX12_halves 85 = .ok (.iload 6, 2) := by decide +kernel
theorem dX12_halves_87 : decode cX12_halves 87 = .ok (.iload 5, 2) := by decide +kernel
theorem dX12_halves_89 : decode cX12_halves 89 = .ok (.iload 7, 2) := by decide +kernel
theorem dX12_halves_91 : decode cX12_halves 91 = .ok (.ishr, 1) := by decide +kernel
theorem dX12_halves_92 : decode cX12_halves 92 = .ok (.iconst 1, 1) := by decide +kernel
theorem dX12_halves_93 : decode cX12_halves 93 = .ok (.iand, 1) := by decide +kernel
theorem dX12_halves_94 : decode cX12_halves 94 = .ok (.aload_n 0, 1) := by decide +kernel
theorem dX12_halves_95 : decode cX12_halves 95 = .ok (.getfield 48, 3) := by decide +kernel
theorem dX12_halves_98 : decode cX12_halves 98 = .ok (.bipush 50, 2) := by decide +kernel
theorem dX12_halves_100 : decode cX12_halves 100 = .ok (.iload 7, 2) := by decide +kernel
theorem dX12_halves_102 : decode cX12_halves 102 = .ok (.iadd, 1) := by decide +kernel
theorem dX12_halves_103 : decode cX12_halves 103 = .ok (.iaload, 1) := by decide +kernel
theorem dX12_halves_104 : decode cX12_halves 104 = .ok (.imul, 1) := by decide +kernel
theorem dX12_halves_105 : decode cX12_halves 105 = .ok (.iadd, 1) := by decide +kernel
theorem dX12_halves_106 : decode cX12_halves 106 = .ok (.istore 6, 2) := by decide +kernel
theorem dX12_halves_108 : decode cX12_halves 108 = .ok (.iinc 7 1, 3) := by decide +kernel
theorem dX12_halves_111 : decode cX12_halves 111 = .ok (.goto (-35), 3) := by decide +kernel
theorem dX12_halves_114 : decode cX12_halves 114 = .ok (.iconst 2, 1) := by decide +kernel
theorem dX12_halves_115 : decode cX12_halves 115 = .ok (.iload 6, 2) := by decide +kernel
theorem dX12_halves_117 : decode cX12_halves 117 = .ok (.imul, 1) := by decide +kernel
theorem dX12_halves_118 : decode cX12_halves 118 = .ok (.iload_n 2, 1) := by decide +kernel
theorem dX12_halves_119 : decode cX12_halves 119 = .ok (.invokestatic 427, 3) := by decide +kernel
theorem dX12_halves_122 : decode cX12_halves 122 = .ok (.iload 4, 2) := by decide +kernel
theorem dX12_halves_124 : decode cX12_halves 124 = .ok (.if_icmp .lt 6, 3) := by decide +kernel
theorem dX12_halves_127 : decode cX12_halves 127 = .ok (.goto 16, 3) := by decide +kernel
theorem dX12_halves_130 : decode cX12_halves 130 = .ok (.iload 5, 2) := by decide +kernel
theorem dX12_halves_132 : decode cX12_halves 132 = .ok (.istore_n 3, 1) := by decide +kernel
theorem dX12_halves_133 : decode cX12_halves 133 = .ok (.iconst 2, 1) := by decide +kernel
theorem dX12_halves_134 : decode cX12_halves 134 = .ok (.iload 6, 2) := by decide +kernel
theorem dX12_halves_136 : decode cX12_halves 136 = .ok (.imul, 1) := by decide +kernel
theorem dX12_halves_137 : decode cX12_halves 137 = .ok (.iload_n 2, 1) := by decide +kernel
theorem dX12_halves_138 : decode cX12_halves 138 = .ok (.invokestatic 427, 3) := by decide +kernel
theorem dX12_halves_141 : decode cX12_halves 141 = .ok (.istore 4, 2) := by decide +kernel
theorem dX12_halves_143 : decode cX12_halves 143 = .ok (.iinc 5 2, 3) := by decide +kernel
theorem dX12_halves_146 : decode cX12_halves 146 = .ok (.goto (-87), 3) := by decide +kernel
theorem dX12_halves_149 : decode cX12_halves 149 = .ok (.iload_n 1, 1) := by decide +kernel
theorem dX12_halves_150 : decode cX12_halves 150 = .ok (.iconst 1, 1) := by decide +kernel
theorem dX12_halves_151 : decode cX12_halves 151 = .ok (.if_icmp .ne 7, 3) := by decide +kernel
theorem dX12_halves_154 : decode cX12_halves 154 = .ok (.iload_n 3, 1) := by decide +kernel
theorem dX12_halves_155 : decode cX12_halves 155 = .ok (.goto 17, 3) := by decide +kernel
theorem dX12_halves_158 : decode cX12_halves 158 = .ok (.iload 4, 2) := by decide +kernel
theorem dX12_halves_160 : decode cX12_halves 160 = .ok (.sipush 9999, 3) := by decide +kernel
theorem dX12_halves_163 : decode cX12_halves 163 = .ok (.if_icmp .ne 7, 3) := by decide +kernel
theorem dX12_halves_166 : decode cX12_halves 166 = .ok (.iconst 0, 1) := by decide +kernel
theorem dX12_halves_167 : decode cX12_halves 167 = .ok (.goto 5, 3) := by decide +kernel
theorem dX12_halves_170 : decode cX12_halves 170 = .ok (.iload 4, 2) := by decide +kernel
theorem dX12_halves_172 : decode cX12_halves 172 = .ok (.ireturn, 1) := by decide +kernel
theorem dX12_chain_0 : decode cX12_chain 0 = .ok (.aload_n 0, 1) := by decide +kernel
theorem dX12_chain_1 : decode cX12_chain 1 = .ok (.iconst 0, 1) := by decide +kernel
theorem dX12_chain_2 : decode cX12_chain 2 = .ok (.putfield 96, 3) := by decide +kernel
theorem dX12_chain_5 : decode cX12_chain 5 = .ok (.aload_n 0, 1) := by decide +kernel
theorem dX12_chain_6 : decode cX12_chain 6 = .ok (.iload_n 1, 1) := by decide +kernel
theorem dX12_chain_7 : decode cX12_chain 7 = .ok (.invokevirtual 368, 3) := by decide +kernel
theorem dX12_chain_10 : decode cX12_chain 10 = .ok (.ifCond .eq 11, 3) := by decide +kernel
theorem dX12_chain_13 : decode cX12_chain 13 = .ok (.aload_n 0, 1) := by decide +kernel
theorem dX12_chain_14 : decode cX12_chain 14 = .ok (.iload_n 2, 1) := by decide +kernel
theorem dX12_chain_15 : decode cX12_chain 15 = .ok (.invokevirtual 368, 3) := by decide +kernel
theorem dX12_chain_18 : decode cX12_chain 18 = .ok (.ifCond .ne 5, 3) := by decide +kernel
theorem dX12_chain_21 : decode cX12_chain 21 = .ok (.iconst 0, 1) := by decide +kernel
theorem dX12_chain_22 : decode cX12_chain 22 = .ok (.ireturn, 1) := by decide +kernel
theorem dX12_chain_23 : decode cX12_chain 23 = .ok (.iconst 1, 1) := by decide +kernel
theorem dX12_chain_24 : decode cX12_chain 24 = .ok (.iload_n 1, 1) := by decide +kernel
theorem dX12_chain_25 : decode cX12_chain 25 = .ok (.ishl, 1) := by decide +kernel
theorem dX12_chain_26 : decode cX12_chain 26 = .ok (.istore_n 3, 1) := by decide +kernel
theorem dX12_chain_27 : decode cX12_chain 27 = .ok (.iconst 0, 1) := by decide +kernel
theorem dX12_chain_28 : decode cX12_chain 28 = .ok (.istore 4, 2) := by decide +kernel
theorem dX12_chain_30 : decode cX12_chain 30 = .ok (.iload 4, 2) := by decide +kernel
theorem dX12_chain_32 : decode cX12_chain 32 = .ok (.aload_n 0, 1) := by decide +kernel
theorem dX12_chain_33 : decode cX12_chain 33 = .ok (.getfield 264, 3) := by decide +kernel
theorem dX12_chain_36 : decode cX12_chain 36 = .ok (.if_icmp .gt 70, 3) := by decide +kernel
theorem dX12_chain_39 : decode cX12_chain 39 = .ok (.iload_n 3, 1) := by decide +kernel
theorem dX12_chain_40 : decode cX12_chain 40 = .ok (.iload_n 2, 1) := by decide +kernel
theorem dX12_chain_41 : decode cX12_chain 41 = .ok (.ishr, 1) := by decide +kernel
theorem dX12_chain_42 : decode cX12_chain 42 = .ok (.iconst 1, 1) := by decide +kernel
theorem dX12_chain_43 : decode cX12_chain 43 = .ok (.iand, 1) := by decide +kernel
theorem dX12_chain_44 : decode cX12_chain 44 = .ok (.iconst 1, 1) := by decide +kernel
theorem dX12_chain_45 : decode cX12_chain 45 = .ok (.if_icmp .ne 6, 3) := by decide +kernel
theorem dX12_chain_48 : decode cX12_chain 48 = .ok (.iload 4, 2) := by decide +kernel
theorem dX12_chain_50 : decode cX12_chain 50 = .ok (.ireturn, 1) := by decide +kernel
theorem dX12_chain_51 : decode cX12_chain 51 = .ok (.iload_n 3, 1) := by decide +kernel
theorem dX12_chain_52 : decode cX12_chain 52 = .ok (.istore 5, 2) := by decide +kernel
theorem dX12_chain_54 : decode cX12_chain 54 = .ok (.iconst 0, 1) := by decide +kernel
theorem dX12_chain_55 : decode cX12_chain 55 = .ok (.istore 6, 2) := by decide +kernel
theorem dX12_chain_57 : decode cX12_chain 57 = .ok (.iload 6, 2) := by decide +kernel
theorem dX12_chain_59 : decode cX12_chain 59 = .ok (.aload_n 0, 1) := by decide +kernel
theorem dX12_chain_60 : decode cX12_chain 60 = .ok (.getfield 264, 3) := by decide +kernel
theorem dX12_chain_63 : decode cX12_chain 63 = .ok (.if_icmp .ge 34, 3) := by decide +kernel
theorem dX12_chain_66 : decode cX12_chain 66 = .ok (.iload 5, 2) := by decide +kernel
theorem dX12_chain_68 : decode cX12_chain 68 = .ok (.iload_n 3, 1) := by decide +kernel
theorem dX12_chain_69 : decode cX12_chain 69 = .ok (.iload 6, 2) := by decide +kernel
theorem dX12_chain_71 : decode cX12_chain 71 = .ok (.ishr, 1) := by decide +kernel
theorem dX12_chain_72 : decode cX12_chain 72 = .ok (.iconst 1, 1) := by decide +kernel
theorem dX12_chain_73 : decode cX12_chain 73 = .ok (.iand, 1) := by decide +kernel
theorem dX12_chain_74 : decode cX12_chain 74 = .ok (.iconst 1, 1) := by decide +kernel
theorem dX12_chain_75 : decode cX12_chain 75 = .ok (.if_icmp .ne 12, 3) := by decide +kernel
theorem dX12_chain_78 : decode cX12_chain 78 = .ok (.aload_n 0, 1) := by decide +kernel
theorem dX12_chain_79 : decode cX12_chain 79 = .ok (.iload 6, 2) := by decide +kernel
theorem dX12_chain_81 : decode cX12_chain 81 = .ok (.invokevirtual 377, 3) := by decide +kernel
theorem dX12_chain_84 : decode cX12_chain 84 = .ok (.goto 4, 3) := by decide +kernel
theorem dX12_chain_87 : decode cX12_chain 87 = .ok (.iconst 0, 1) := by decide +kernel
theorem dX12_chain_88 : decode cX12_chain 88 = .ok (.ior, 1) := by decide +kernel
theorem dX12_chain_89 : decode cX12_chain 89 = .ok (.istore 5, 2) := by decide +kernel
theorem dX12_chain_91 : decode cX12_chain 91 = .ok (.iinc 6 1, 3) := by decide +kernel
theorem dX12_chain_94 : decode cX12_chain 94 = .ok (.goto (-37), 3) := by decide +kernel
theorem dX12_chain_97 : decode cX12_chain 97 = .ok (.iload 5, 2) := by decide +kernel
theorem dX12_chain_99 : decode cX12_chain 99 = .ok (.istore_n 3, 1) := by decide +kernel
theorem dX12_chain_100 : decode cX12_chain 100 = .ok (.iinc 4 1, 3) := by decide +kernel
theorem dX12_chain_103 : decode cX12_chain 103 = .ok (.goto (-73), 3) := by decide +kernel
theorem dX12_chain_106 : decode cX12_chain 106 = .ok (.iconst (-1), 1) := by decide +kernel
theorem dX12_chain_107 : decode cX12_chain 107 = .ok (.ireturn, 1) := by decide +kernel
theorem dX12_see_0 : decode cX12_see 0 = .ok (.aload_n 0, 1) := by decide +kernel
theorem dX12_see_1 : decode cX12_see 1 = .ok (.iconst 0, 1) := by decide +kernel
theorem dX12_see_2 : decode cX12_see 2 = .ok (.putfield 96, 3) := by decide +kernel
theorem dX12_see_5 : decode cX12_see 5 = .ok (.aload_n 0, 1) := by decide +kernel
theorem dX12_see_6 : decode cX12_see 6 = .ok (.iload_n 1, 1) := by decide +kernel
theorem dX12_see_7 : decode cX12_see 7 = .ok (.invokevirtual 368, 3) := by decide +kernel
theorem dX12_see_10 : decode cX12_see 10 = .ok (.ifCond .ne 5, 3) := by decide +kernel
theorem dX12_see_13 : decode cX12_see 13 = .ok (.iconst 0, 1) := by decide +kernel
theorem dX12_see_14 : decode cX12_see 14 = .ok (.ireturn, 1) := by decide +kernel
theorem dX12_see_15 : decode cX12_see 15 = .ok (.aload_n 0, 1) := by decide +kernel
theorem dX12_see_16 : decode cX12_see 16 = .ok (.getfield 277, 3) := by decide +kernel
theorem dX12_see_19 : decode cX12_see 19 = .ok (.bipush 8, 2) := by decide +kernel
theorem dX12_see_21 : decode cX12_see 21 = .ok (.if_icmp .eq 23, 3) := by decide +kernel
theorem dX12_see_24 : decode cX12_see 24 = .ok (.iload_n 2, 1) := by decide +kernel
theorem dX12_see_25 : decode cX12_see 25 = .ok (.iconst 0, 1) := by decide +kernel
theorem dX12_see_26 : decode cX12_see 26 = .ok (.bipush 20, 2) := by decide +kernel
theorem dX12_see_28 : decode cX12_see 28 = .ok (.invokestatic 346, 3) := by decide +kernel
theorem dX12_see_31 : decode cX12_see 31 = .ok (.ifCond .eq 13, 3) := by decide +kernel
theorem dX12_see_34 : decode cX12_see 34 = .ok (.iload_n 3, 1) := by decide +kernel
theorem dX12_see_35 : decode cX12_see 35 = .ok (.iconst 1, 1) := by decide +kernel
theorem dX12_see_36 : decode cX12_see 36 = .ok (.bipush 12, 2) := by decide +kernel
theorem dX12_see_38 : decode cX12_see 38 = .ok (.invokestatic 346, 3) := by decide +kernel
theorem dX12_see_41 : decode cX12_see 41 = .ok (.ifCond .ne 9, 3) := by decide +kernel
theorem dX12_see_44 : decode cX12_see 44 = .ok (.aload_n 0, 1) := by decide +kernel
theorem dX12_see_45 : decode cX12_see 45 = .ok (.iconst 2, 1) := by decide +kernel
theorem dX12_see_46 : decode cX12_see 46 = .ok (.invokevirtual 386, 3) := by decide +kernel
theorem dX12_see_49 : decode cX12_see 49 = .ok (.ireturn, 1) := by decide +kernel
theorem dX12_see_50 : decode cX12_see 50 = .ok (.aload_n 0, 1) := by decide +kernel
theorem dX12_see_51 : decode cX12_see 51 = .ok (.getfield 78, 3) := by decide +kernel
theorem dX12_see_54 : decode cX12_see 54 = .ok (.iconst 3, 1) := by decide +kernel
theorem dX12_see_55 : decode cX12_see 55 = .ok (.aload_n 0, 1) := by decide +kernel
theorem dX12_see_56 : decode cX12_see 56 = .ok (.getfield 277, 3) := by decide +kernel
theorem dX12_see_59 : decode cX12_see 59 = .ok (.imul, 1) := by decide +kernel
theorem dX12_see_60 : decode cX12_see 60 = .ok (.iload_n 1, 1) := by decide +kernel
theorem dX12_see_61 : decode cX12_see 61 = .ok (.iastore, 1) := by decide +kernel
theorem dX12_see_62 : decode cX12_see 62 = .ok (.aload_n 0, 1) := by decide +kernel
theorem dX12_see_63 : decode cX12_see 63 = .ok (.getfield 78, 3) := by decide +kernel
theorem dX12_see_66 : decode cX12_see 66 = .ok (.iconst 3, 1) := by decide +kernel
theorem dX12_see_67 : decode cX12_see 67 = .ok (.aload_n 0, 1) := by decide +kernel
theorem dX12_see_68 : decode cX12_see 68 = .ok (.getfield 277, 3) := by decide +kernel
theorem dX12_see_71 : decode cX12_see 71 = .ok (.imul, 1) := by decide +kernel
theorem dX12_see_72 : decode cX12_see 72 = .ok (.iconst 1, 1) := by decide +kernel
theorem dX12_see_73 : decode cX12_see 73 = .ok (.iadd, 1) := by decide +kernel
theorem dX12_see_74 : decode cX12_see 74 = .ok (.iload_n 2, 1) := by decide +kernel
theorem dX12_see_75 : decode cX12_see 75 = .ok (.iastore, 1) := by decide +kernel
theorem dX12_see_76 : decode cX12_see 76 = .ok (.aload_n 0, 1) := by decide +kernel
theorem dX12_see_77 : decode cX12_see 77 = .ok (.getfield 78, 3) := by decide +kernel
theorem dX12_see_80 : decode cX12_see 80 = .ok (.iconst 3, 1) := by decide +kernel
theorem dX12_see_81 : decode cX12_see 81 = .ok (.aload_n 0, 1) := by decide +kernel
theorem dX12_see_82 : decode cX12_see 82 = .ok (.getfield 277, 3) := by decide +kernel
theorem dX12_see_85 : decode cX12_see 85 = .ok (.imul, 1) := by decide +kernel
theorem dX12_see_86 : decode cX12_see 86 = .ok (.iconst 2, 1) := by decide +kernel
theorem dX12_see_87 : decode cX12_see 87 = .ok (.iadd, 1) := by decide +kernel
theorem dX12_see_88 : decode cX12_see 88 = .ok (.iload_n 3, 1) := by decide +kernel
theorem dX12_see_89 : decode cX12_see 89 = .ok (.iastore, 1) := by decide +kernel
theorem dX12_see_90 : decode cX12_see 90 = .ok (.aload_n 0, 1) := by decide +kernel
theorem dX12_see_91 : decode cX12_see 91 = .ok (.dup, 1) := by decide +kernel
theorem dX12_see_92 : decode cX12_see 92 = .ok (.getfield 277, 3) := by decide +kernel
theorem dX12_see_95 : decode cX12_see 95 = .ok (.iconst 1, 1) := by decide +kernel
theorem dX12_see_96 : decode cX12_see 96 = .ok (.iadd, 1) := by decide +kernel
theorem dX12_see_97 : decode cX12_see 97 = .ok (.putfield 277, 3) := by decide +kernel
theorem dX12_see_100 : decode cX12_see 100 = .ok (.aload_n 0, 1) := by decide +kernel
theorem dX12_see_101 : decode cX12_see 101 = .ok (.getfield 277, 3) := by decide +kernel
theorem dX12_see_104 : decode cX12_see 104 = .ok (.ireturn, 1) := by decide +kernel
theorem dX12_forget_0 : decode cX12_forget 0 = .ok (.aload_n 0, 1) := by decide +kernel
theorem dX12_forget_1 : decode cX12_forget 1 = .ok (.iconst 0, 1) := by decide +kernel
theorem dX12_forget_2 : decode cX12_forget 2 = .ok (.putfield 96, 3) := by decide +kernel
theorem dX12_forget_5 : decode cX12_forget 5 = .ok (.aload_n 0, 1) := by decide +kernel
theorem dX12_forget_6 : decode cX12_forget 6 = .ok (.iconst 0, 1) := by decide +kernel
theorem dX12_forget_7 : decode cX12_forget 7 = .ok (.putfield 277, 3) := by decide +kernel
theorem dX12_forget_10 : decode cX12_forget 10 = .ok (.return_, 1) := by decide +kernel
theorem dX12_isSeen_0 : decode cX12_isSeen 0 = .ok (.iconst 0, 1) := by decide +kernel
theorem dX12_isSeen_1 : decode cX12_isSeen 1 = .ok (.istore_n 1, 1) := by decide +kernel
theorem dX12_isSeen_2 : decode cX12_isSeen 2 = .ok (.iload_n 1, 1) := by decide +kernel
theorem dX12_isSeen_3 : decode cX12_isSeen 3 = .ok (.bipush 20, 2) := by decide +kernel
theorem dX12_isSeen_5 : decode cX12_isSeen 5 = .ok (.if_icmp .gt 124, 3) := by decide +kernel
theorem dX12_isSeen_8 : decode cX12_isSeen 8 = .ok (.iconst 0, 1) := by decide +kernel
theorem dX12_isSeen_9 : decode cX12_isSeen 9 = .ok (.istore_n 2, 1) := by decide +kernel
theorem dX12_isSeen_10 : decode cX12_isSeen 10 = .ok (.iload_n 2, 1) := by decide +kernel
theorem dX12_isSeen_11 : decode cX12_isSeen 11 = .ok (.aload_n 0, 1) := by decide +kernel
theorem dX12_isSeen_12 : decode cX12_isSeen 12 = .ok (.getfield 277, 3) := by decide +kernel
theorem dX12_isSeen_15 : decode cX12_isSeen 15 = .ok (.if_icmp .ge 60, 3) := by decide +kernel
theorem dX12_isSeen_18 : decode cX12_isSeen 18 = .ok (.aload_n 0, 1) := by decide +kernel
theorem dX12_isSeen_19 : decode cX12_isSeen 19 = .ok (.getfield 78, 3) := by decide +kernel
theorem dX12_isSeen_22 : decode cX12_isSeen 22 = .ok (.iconst 3, 1) := by decide +kernel
theorem dX12_isSeen_23 : decode cX12_isSeen 23 = .ok (.iload_n 2, 1) := by decide +kernel
theorem dX12_isSeen_24 : decode cX12_isSeen 24 = .ok (.imul, 1) := by decide +kernel
theorem dX12_isSeen_25 : decode cX12_isSeen 25 = .ok (.iconst 1, 1) := by decide +kernel
theorem dX12_isSeen_26 : decode cX12_isSeen 26 = .ok (.iadd, 1) := by decide +kernel
theorem dX12_isSeen_27 : decode cX12_isSeen 27 = .ok (.iaload, 1) := by decide +kernel
theorem dX12_isSeen_28 : decode cX12_isSeen 28 = .ok (.iload_n 1, 1) := by decide +kernel
theorem dX12_isSeen_29 : decode cX12_isSeen 29 = .ok (.if_icmp .ne 40, 3) := by decide +kernel
theorem dX12_isSeen_32 : decode cX12_isSeen 32 = .ok (.aload_n 0, 1) := by decide +kernel
theorem dX12_isSeen_33 : decode cX12_isSeen 33 = .ok (.bipush 86, 2) := by decide +kernel
theorem dX12_isSeen_35 : decode cX12_isSeen 35 = .ok (.aload_n 0, 1) := by decide +kernel
theorem dX12_isSeen_36 : decode cX12_isSeen 36 = .ok (.getfield 48, 3) := by decide +kernel
theorem dX12_isSeen_39 : decode cX12_isSeen 39 = .ok (.bipush 88, 2) := by decide +kernel
theorem dX12_isSeen_41 : decode cX12_isSeen 41 = .ok (.aload_n 0, 1) := by decide +kernel
theorem dX12_isSeen_42 : decode cX12_isSeen 42 = .ok (.getfield 78, 3) := by decide +kernel
theorem dX12_isSeen_45 : decode cX12_isSeen 45 = .ok (.iconst 3, 1) := by decide +kernel
theorem dX12_isSeen_46 : decode cX12_isSeen 46 = .ok (.iload_n 2, 1) := by decide +kernel
theorem dX12_isSeen_47 : decode cX12_isSeen 47 = .ok (.imul, 1) := by decide +kernel
theorem dX12_isSeen_48 : decode cX12_isSeen 48 = .ok (.iaload, 1) := by decide +kernel
theorem dX12_isSeen_49 : decode cX12_isSeen 49 = .ok (.iadd, 1) := by decide +kernel
theorem dX12_isSeen_50 : decode cX12_isSeen 50 = .ok (.iaload, 1) := by decide +kernel
theorem dX12_isSeen_51 : decode cX12_isSeen 51 = .ok (.invokevirtual 297, 3) := by decide +kernel
theorem dX12_isSeen_54 : decode cX12_isSeen 54 = .ok (.aload_n 0, 1) := by decide +kernel
theorem dX12_isSeen_55 : decode cX12_isSeen 55 = .ok (.getfield 78, 3) := by decide +kernel
theorem dX12_isSeen_58 : decode cX12_isSeen 58 = .ok (.iconst 3, 1) := by decide +kernel
theorem dX12_isSeen_59 : decode cX12_isSeen 59 = .ok (.iload_n 2, 1) := by decide +kernel
theorem dX12_isSeen_60 : decode cX12_isSeen 60 = .ok (.imul, 1) := by decide +kernel
theorem dX12_isSeen_61 : decode cX12_isSeen 61 = .ok (.iconst 2, 1) := by decide +kernel
theorem dX12_isSeen_62 : decode cX12_isSeen 62 = .ok (.iadd, 1) := by decide +kernel
theorem dX12_isSeen_63 : decode cX12_isSeen 63 = .ok (.iaload, 1) := by decide +kernel
theorem dX12_isSeen_64 : decode cX12_isSeen 64 = .ok (.if_icmp .eq 5, 3) := by decide +kernel
theorem dX12_isSeen_67 : decode cX12_isSeen 67 = .ok (.iconst 0, 1) := by decide +kernel
theorem dX12_isSeen_68 : decode cX12_isSeen 68 = .ok (.ireturn, 1) := by decide +kernel
theorem dX12_isSeen_69 : decode cX12_isSeen 69 = .ok (.iinc 2 1, 3) := by decide +kernel
theorem dX12_isSeen_72 : decode cX12_isSeen 72 = .ok (.goto (-62), 3) := by decide +kernel
theorem dX12_isSeen_75 : decode cX12_isSeen 75 = .ok (.iload_n 1, 1) := by decide +kernel
theorem dX12_isSeen_76 : decode cX12_isSeen 76 = .ok (.iconst 5, 1) := by decide +kernel
theorem dX12_isSeen_77 : decode cX12_isSeen 77 = .ok (.if_icmp .ne 40, 3) := by decide +kernel
theorem dX12_isSeen_80 : decode cX12_isSeen 80 = .ok (.iconst 0, 1) := by decide +kernel
theorem dX12_isSeen_81 : decode cX12_isSeen 81 = .ok (.istore_n 2, 1) := by decide +kernel
theorem dX12_isSeen_82 : decode cX12_isSeen 82 = .ok (.iload_n 2, 1) := by decide +kernel
theorem dX12_isSeen_83 : decode cX12_isSeen 83 = .ok (.aload_n 0, 1) := by decide +kernel
theorem dX12_isSeen_84 : decode cX12_isSeen 84 = .ok (.getfield 264, 3) := by decide +kernel
theorem dX12_isSeen_87 : decode cX12_isSeen 87 = .ok (.if_icmp .ge 30, 3) := by decide +kernel
theorem dX12_isSeen_90 : decode cX12_isSeen 90 = .ok (.aload_n 0, 1) := by decide +kernel
theorem dX12_isSeen_91 : decode cX12_isSeen 91 = .ok (.getfield 81, 3) := by decide +kernel
theorem dX12_isSeen_94 : decode cX12_isSeen 94 = .ok (.iload_n 2, 1) := by decide +kernel
theorem dX12_isSeen_95 : decode cX12_isSeen 95 = .ok (.aload_n 0, 1) := by decide +kernel
theorem dX12_isSeen_96 : decode cX12_isSeen 96 = .ok (.bipush 86, 2) := by decide +kernel
theorem dX12_isSeen_98 : decode cX12_isSeen 98 = .ok (.aload_n 0, 1) := by decide +kernel
theorem dX12_isSeen_99 : decode cX12_isSeen 99 = .ok (.getfield 48, 3) := by decide +kernel
theorem dX12_isSeen_102 : decode cX12_isSeen 102 = .ok (.bipush 88, 2) := by decide +kernel
theorem dX12_isSeen_104 : decode cX12_isSeen 104 = .ok (.iload_n 2, 1) := by decide +kernel
theorem dX12_isSeen_105 : decode cX12_isSeen 105 = .ok (.iadd, 1) := by decide +kernel
theorem dX12_isSeen_106 : decode cX12_isSeen 106 = .ok (.iaload, 1) := by decide +kernel
theorem dX12_isSeen_107 : decode cX12_isSeen 107 = .ok (.invokevirtual 297, 3) := by decide +kernel
theorem dX12_isSeen_110 : decode cX12_isSeen 110 = .ok (.iastore, 1) := by decide +kernel
theorem dX12_isSeen_111 : decode cX12_isSeen 111 = .ok (.iinc 2 1, 3) := by decide +kernel
theorem dX12_isSeen_114 : decode cX12_isSeen 114 = .ok (.goto (-32), 3) := by decide +kernel
theorem dX12_isSeen_117 : decode cX12_isSeen 117 = .ok (.aload_n 0, 1) := by decide +kernel
theorem dX12_isSeen_118 : decode cX12_isSeen 118 = .ok (.bipush 86, 2) := by decide +kernel
theorem dX12_isSeen_120 : decode cX12_isSeen 120 = .ok (.invokevirtual 334, 3) := by decide +kernel
theorem dX12_isSeen_123 : decode cX12_isSeen 123 = .ok (.iinc 1 1, 3) := by decide +kernel
theorem dX12_isSeen_126 : decode cX12_isSeen 126 = .ok (.goto (-124), 3) := by decide +kernel
theorem dX12_isSeen_129 : decode cX12_isSeen 129 = .ok (.iconst 1, 1) := by decide +kernel
theorem dX12_isSeen_130 : decode cX12_isSeen 130 = .ok (.ireturn, 1) := by decide +kernel
theorem dX12_isGuess_0 : decode cX12_isGuess 0 = .ok (.iload_n 1, 1) := by decide +kernel
theorem dX12_isGuess_1 : decode cX12_isGuess 1 = .ok (.bipush 10, 2) := by decide +kernel
theorem dX12_isGuess_3 : decode cX12_isGuess 3 = .ok (.idiv, 1) := by decide +kernel
theorem dX12_isGuess_4 : decode cX12_isGuess 4 = .ok (.istore_n 2, 1) := by decide +kernel
theorem dX12_isGuess_5 : decode cX12_isGuess 5 = .ok (.aload_n 0, 1) := by decide +kernel
theorem dX12_isGuess_6 : decode cX12_isGuess 6 = .ok (.getfield 48, 3) := by decide +kernel
theorem dX12_isGuess_9 : decode cX12_isGuess 9 = .ok (.bipush 50, 2) := by decide +kernel
theorem dX12_isGuess_11 : decode cX12_isGuess 11 = .ok (.iload_n 2, 1) := by decide +kernel
theorem dX12_isGuess_12 : decode cX12_isGuess 12 = .ok (.iadd, 1) := by decide +kernel
theorem dX12_isGuess_13 : decode cX12_isGuess 13 = .ok (.iaload, 1) := by decide +kernel
theorem dX12_isGuess_14 : decode cX12_isGuess 14 = .ok (.iload_n 1, 1) := by decide +kernel
theorem dX12_isGuess_15 : decode cX12_isGuess 15 = .ok (.bipush 10, 2) := by decide +kernel
theorem dX12_isGuess_17 : decode cX12_isGuess 17 = .ok (.irem, 1) := by decide +kernel
theorem dX12_isGuess_18 : decode cX12_isGuess 18 = .ok (.if_icmp .ne 5, 3) := by decide +kernel
theorem dX12_isGuess_21 : decode cX12_isGuess 21 = .ok (.iconst 0, 1) := by decide +kernel
theorem dX12_isGuess_22 : decode cX12_isGuess 22 = .ok (.ireturn, 1) := by decide +kernel
theorem dX12_isGuess_23 : decode cX12_isGuess 23 = .ok (.aload_n 0, 1) := by decide +kernel
theorem dX12_isGuess_24 : decode cX12_isGuess 24 = .ok (.invokevirtual 337, 3) := by decide +kernel
theorem dX12_isGuess_27 : decode cX12_isGuess 27 = .ok (.aload_n 0, 1) := by decide +kernel
theorem dX12_isGuess_28 : decode cX12_isGuess 28 = .ok (.getfield 48, 3) := by decide +kernel
theorem dX12_isGuess_31 : decode cX12_isGuess 31 = .ok (.sipush 136, 3) := by decide +kernel
theorem dX12_isGuess_34 : decode cX12_isGuess 34 = .ok (.iload_n 2, 1) := by decide +kernel
theorem dX12_isGuess_35 : decode cX12_isGuess 35 = .ok (.iadd, 1) := by decide +kernel
theorem dX12_isGuess_36 : decode cX12_isGuess 36 = .ok (.iload_n 1, 1) := by decide +kernel
theorem dX12_isGuess_37 : decode cX12_isGuess 37 = .ok (.bipush 10, 2) := by decide +kernel
theorem dX12_isGuess_39 : decode cX12_isGuess 39 = .ok (.irem, 1) := by decide +kernel
theorem dX12_isGuess_40 : decode cX12_isGuess 40 = .ok (.iastore, 1) := by decide +kernel
theorem dX12_isGuess_41 : decode cX12_isGuess 41 = .ok (.aload_n 0, 1) := by decide +kernel
theorem dX12_isGuess_42 : decode cX12_isGuess 42 = .ok (.invokevirtual 445, 3) := by decide +kernel
theorem dX12_isGuess_45 : decode cX12_isGuess 45 = .ok (.ireturn, 1) := by decide +kernel
theorem dX12_ranked_0 : decode cX12_ranked 0 = .ok (.aload_n 0, 1) := by decide +kernel
theorem dX12_ranked_1 : decode cX12_ranked 1 = .ok (.iconst 0, 1) := by decide +kernel
theorem dX12_ranked_2 : decode cX12_ranked 2 = .ok (.putfield 96, 3) := by decide +kernel
theorem dX12_ranked_5 : decode cX12_ranked 5 = .ok (.aload_n 0, 1) := by decide +kernel
theorem dX12_ranked_6 : decode cX12_ranked 6 = .ok (.iload_n 1, 1) := by decide +kernel
theorem dX12_ranked_7 : decode cX12_ranked 7 = .ok (.iconst 2, 1) := by decide +kernel
theorem dX12_ranked_8 : decode cX12_ranked 8 = .ok (.invokevirtual 371, 3) := by decide +kernel
theorem dX12_ranked_11 : decode cX12_ranked 11 = .ok (.ifCond .ne 5, 3) := by decide +kernel
theorem dX12_ranked_14 : decode cX12_ranked 14 = .ok (.iconst 0, 1) := by decide +kernel
theorem dX12_ranked_15 : decode cX12_ranked 15 = .ok (.ireturn, 1) := by decide +kernel
theorem dX12_ranked_16 : decode cX12_ranked 16 = .ok (.iload_n 1, 1) := by decide +kernel
theorem dX12_ranked_17 : decode cX12_ranked 17 = .ok (.iconst 2, 1) := by decide +kernel
theorem dX12_ranked_18 : decode cX12_ranked 18 = .ok (.if_icmp .ne 20, 3) := by decide +kernel
theorem dX12_ranked_21 : decode cX12_ranked 21 = .ok (.aload_n 0, 1) := by decide +kernel
theorem dX12_ranked_22 : decode cX12_ranked 22 = .ok (.invokevirtual 337, 3) := by decide +kernel
theorem dX12_ranked_25 : decode cX12_ranked 25 = .ok (.aload_n 0, 1) := by decide +kernel
theorem dX12_ranked_26 : decode cX12_ranked 26 = .ok (.invokevirtual 445, 3) := by decide +kernel
theorem dX12_ranked_29 : decode cX12_ranked 29 = .ok (.ifCond .eq 7, 3) := by decide +kernel
theorem dX12_ranked_32 : decode cX12_ranked 32 = .ok (.iconst 1, 1) := by decide +kernel
theorem dX12_ranked_33 : decode cX12_ranked 33 = .ok (.goto 4, 3) := by decide +kernel
theorem dX12_ranked_36 : decode cX12_ranked 36 = .ok (.iconst 0, 1) := by decide +kernel
theorem dX12_ranked_37 : decode cX12_ranked 37 = .ok (.ireturn, 1) := by decide +kernel
theorem dX12_ranked_38 : decode cX12_ranked 38 = .ok (.iconst 0, 1) := by decide +kernel
theorem dX12_ranked_39 : decode cX12_ranked 39 = .ok (.istore_n 2, 1) := by decide +kernel
theorem dX12_ranked_40 : decode cX12_ranked 40 = .ok (.iconst (-1), 1) := by decide +kernel
theorem dX12_ranked_41 : decode cX12_ranked 41 = .ok (.istore_n 3, 1) := by decide +kernel
theorem dX12_ranked_42 : decode cX12_ranked 42 = .ok (.iconst 0, 1) := by decide +kernel
theorem dX12_ranked_43 : decode cX12_ranked 43 = .ok (.istore 4, 2) := by decide +kernel
theorem dX12_ranked_45 : decode cX12_ranked 45 = .ok (.iload 4, 2) := by decide +kernel
theorem dX12_ranked_47 : decode cX12_ranked 47 = .ok (.bipush 10, 2) := by decide +kernel
theorem dX12_ranked_49 : decode cX12_ranked 49 = .ok (.aload_n 0, 1) := by decide +kernel
theorem dX12_ranked_50 : decode cX12_ranked 50 = .ok (.getfield 264, 3) := by decide +kernel
theorem dX12_ranked_53 : decode cX12_ranked 53 = .ok (.imul, 1) := by decide +kernel
theorem dX12_ranked_54 : decode cX12_ranked 54 = .ok (.if_icmp .ge 32, 3) := by decide +kernel
theorem dX12_ranked_57 : decode cX12_ranked 57 = .ok (.aload_n 0, 1) := by decide +kernel
theorem dX12_ranked_58 : decode cX12_ranked 58 = .ok (.iload 4, 2) := by decide +kernel
theorem dX12_ranked_60 : decode cX12_ranked 60 = .ok (.invokevirtual 448, 3) := by decide +kernel
theorem dX12_ranked_63 : decode cX12_ranked 63 = .ok (.ifCond .ne 6, 3) := by decide +kernel
theorem dX12_ranked_66 : decode cX12_ranked 66 = .ok (.goto 14, 3) := by decide +kernel
theorem dX12_ranked_69 : decode cX12_ranked 69 = .ok (.iinc 2 1, 3) := by decide +kernel
theorem dX12_ranked_72 : decode cX12_ranked 72 = .ok (.iload_n 3, 1) := by decide +kernel
theorem dX12_ranked_73 : decode cX12_ranked 73 = .ok (.iconst (-1), 1) := by decide +kernel
theorem dX12_ranked_74 : decode cX12_ranked 74 = .ok (.if_icmp .ne 6, 3) := by decide +kernel
theorem dX12_ranked_77 : decode cX12_ranked 77 = .ok (.iload 4, 2) := by decide +kernel
theorem dX12_ranked_79 : decode cX12_ranked 79 = .ok (.istore_n 3, 1) := by decide +kernel
theorem dX12_ranked_80 : decode cX12_ranked 80 = .ok (.iinc 4 1, 3) := by decide +kernel
theorem dX12_ranked_83 : decode cX12_ranked 83 = .ok (.goto (-38), 3) := by decide +kernel
theorem dX12_ranked_86 : decode cX12_ranked 86 = .ok (.iload_n 1, 1) := by decide +kernel
theorem dX12_ranked_87 : decode cX12_ranked 87 = .ok (.ifCond .ne 7, 3) := by decide +kernel
theorem dX12_ranked_90 : decode cX12_ranked 90 = .ok (.iload_n 2, 1) := by decide +kernel
theorem dX12_ranked_91 : decode cX12_ranked 91 = .ok (.goto 4, 3) := by decide +kernel
theorem dX12_ranked_94 : decode cX12_ranked 94 = .ok (.iload_n 3, 1) := by decide +kernel
theorem dX12_ranked_95 : decode cX12_ranked 95 = .ok (.ireturn, 1) := by decide +kernel
theorem dX12_look_0 : decode cX12_look 0 = .ok (.aload_n 0, 1) := by decide +kernel
theorem dX12_look_1 : decode cX12_look 1 = .ok (.iconst 0, 1) := by decide +kernel
theorem dX12_look_2 : decode cX12_look 2 = .ok (.putfield 96, 3) := by decide +kernel
theorem dX12_look_5 : decode cX12_look 5 = .ok (.aload_n 0, 1) := by decide +kernel
theorem dX12_look_6 : decode cX12_look 6 = .ok (.iload_n 1, 1) := by decide +kernel
theorem dX12_look_7 : decode cX12_look 7 = .ok (.iconst 1, 1) := by decide +kernel
theorem dX12_look_8 : decode cX12_look 8 = .ok (.invokevirtual 371, 3) := by decide +kernel
theorem dX12_look_11 : decode cX12_look 11 = .ok (.ifCond .ne 5, 3) := by decide +kernel
theorem dX12_look_14 : decode cX12_look 14 = .ok (.iconst 0, 1) := by decide +kernel
theorem dX12_look_15 : decode cX12_look 15 = .ok (.ireturn, 1) := by decide +kernel
theorem dX12_look_16 : decode cX12_look 16 = .ok (.iconst 0, 1) := by decide +kernel
theorem dX12_look_17 : decode cX12_look 17 = .ok (.istore_n 2, 1) := by decide +kernel
theorem dX12_look_18 : decode cX12_look 18 = .ok (.iload_n 2, 1) := by decide +kernel
theorem dX12_look_19 : decode cX12_look 19 = .ok (.aload_n 0, 1) := by decide +kernel
theorem dX12_look_20 : decode cX12_look 20 = .ok (.getfield 264, 3) := by decide +kernel
theorem dX12_look_23 : decode cX12_look 23 = .ok (.if_icmp .ge 16, 3) := by decide +kernel
theorem dX12_look_26 : decode cX12_look 26 = .ok (.aload_n 0, 1) := by decide +kernel
theorem dX12_look_27 : decode cX12_look 27 = .ok (.getfield 84, 3) := by decide +kernel
theorem dX12_look_30 : decode cX12_look 30 = .ok (.iload_n 2, 1) := by decide +kernel
theorem dX12_look_31 : decode cX12_look 31 = .ok (.iconst 0, 1) := by decide +kernel
theorem dX12_look_32 : decode cX12_look 32 = .ok (.iastore, 1) := by decide +kernel
theorem dX12_look_33 : decode cX12_look 33 = .ok (.iinc 2 1, 3) := by decide +kernel
theorem dX12_look_36 : decode cX12_look 36 = .ok (.goto (-18), 3) := by decide +kernel
theorem dX12_look_39 : decode cX12_look 39 = .ok (.iconst 0, 1) := by decide +kernel
theorem dX12_look_40 : decode cX12_look 40 = .ok (.istore_n 2, 1) := by decide +kernel
theorem dX12_look_41 : decode cX12_look 41 = .ok (.iload_n 2, 1) := by decide +kernel
theorem dX12_look_42 : decode cX12_look 42 = .ok (.bipush 10, 2) := by decide +kernel
theorem dX12_look_44 : decode cX12_look 44 = .ok (.aload_n 0, 1) := by decide +kernel
theorem dX12_look_45 : decode cX12_look 45 = .ok (.getfield 264, 3) := by decide +kernel
theorem dX12_look_48 : decode cX12_look 48 = .ok (.imul, 1) := by decide +kernel
theorem dX12_look_49 : decode cX12_look 49 = .ok (.if_icmp .ge 50, 3) := by decide +kernel
theorem dX12_look_52 : decode cX12_look 52 = .ok (.aload_n 0, 1) := by decide +kernel
theorem dX12_look_53 : decode cX12_look 53 = .ok (.iload_n 2, 1) := by decide +kernel
theorem dX12_look_54 : decode cX12_look 54 = .ok (.invokevirtual 448, 3) := by decide +kernel
theorem dX12_look_57 : decode cX12_look 57 = .ok (.ifCond .eq 36, 3) := by decide +kernel
theorem dX12_look_60 : decode cX12_look 60 = .ok (.iconst 0, 1) := by decide +kernel
theorem dX12_look_61 : decode cX12_look 61 = .ok (.istore_n 3, 1) := by decide +kernel
theorem dX12_look_62 : decode cX12_look 62 = .ok (.iload_n 3, 1) := by decide +kernel
theorem dX12_look_63 : decode cX12_look 63 = .ok (.aload_n 0, 1) := by decide +kernel
theorem dX12_look_64 : decode cX12_look 64 = .ok (.getfield 264, 3) := by decide +kernel
theorem dX12_look_67 : decode cX12_look 67 = .ok (.if_icmp .ge 26, 3) := by decide +kernel
theorem dX12_look_70 : decode cX12_look 70 = .ok (.aload_n 0, 1) := by decide +kernel
theorem dX12_look_71 : decode cX12_look 71 = .ok (.getfield 84, 3) := by decide +kernel
theorem dX12_look_74 : decode cX12_look 74 = .ok (.iload_n 3, 1) := by decide +kernel
theorem dX12_look_75 : decode cX12_look 75 = .ok (.dup2, 1) := by decide +kernel
theorem dX12_look_76 : decode cX12_look 76 = .ok (.iaload, 1) := by decide +kernel
theorem dX12_look_77 : decode cX12_look 77 = .ok (.iconst 1, 1) := by decide +kernel
theorem dX12_look_78 : decode cX12_look 78 = .ok (.aload_n 0, 1) := by decide +kernel
theorem dX12_look_79 : decode cX12_look 79 = .ok (.getfield 81, 3) := by decide +kernel
theorem dX12_look_82 : decode cX12_look 82 = .ok (.iload_n 3, 1) := by decide +kernel
theorem dX12_look_83 : decode cX12_look 83 = .ok (.iaload, 1) := by decide +kernel
theorem dX12_look_84 : decode cX12_look 84 = .ok (.ishl, 1) := by decide +kernel
theorem dX12_look_85 : decode cX12_look 85 = .ok (.ior, 1) := by decide +kernel
theorem dX12_look_86 : decode cX12_look 86 = .ok (.iastore, 1) := by decide +kernel
theorem dX12_look_87 : decode cX12_look 87 = .ok (.iinc 3 1, 3) := by decide +kernel
theorem dX12_look_90 : decode cX12_look 90 = .ok (.goto (-28), 3) := by decide +kernel
theorem dX12_look_93 : decode cX12_look 93 = .ok (.iinc 2 1, 3) := by decide +kernel
theorem dX12_look_96 : decode cX12_look 96 = .ok (.goto (-55), 3) := by decide +kernel
theorem dX12_look_99 : decode cX12_look 99 = .ok (.iconst (-1), 1) := by decide +kernel
theorem dX12_look_100 : decode cX12_look 100 = .ok (.istore_n 2, 1) := by decide +kernel
theorem dX12_look_101 : decode cX12_look 101 = .ok (.iconst 0, 1) := by decide +kernel
theorem dX12_look_102 : decode cX12_look 102 = .ok (.istore_n 3, 1) := by decide +kernel
theorem dX12_look_103 : decode cX12_look 103 = .ok (.iconst 0, 1) := by decide +kernel
theorem dX12_look_104 : decode cX12_look 104 = .ok (.istore 4, 2) := by decide +kernel
theorem dX12_look_106 : decode cX12_look 106 = .ok (.iload 4, 2) := by decide +kernel
theorem dX12_look_108 : decode cX12_look 108 = .ok (.aload_n 0, 1) := by decide +kernel
theorem dX12_look_109 : decode cX12_look 109 = .ok (.getfield 264, 3) := by decide +kernel
theorem dX12_look_112 : decode cX12_look 112 = .ok (.if_icmp .ge 40, 3) := by decide +kernel
theorem dX12_look_115 : decode cX12_look 115 = .ok (.aload_n 0, 1) := by decide +kernel
theorem dX12_look_116 : decode cX12_look 116 = .ok (.getfield 84, 3) := by decide +kernel
theorem dX12_look_119 : decode cX12_look 119 = .ok (.iload 4, 2) := by decide +kernel
theorem dX12_look_121 : decode cX12_look 121 = .ok (.iaload, 1) := by decide +kernel
theorem dX12_look_122 : decode cX12_look 122 = .ok (.invokestatic 291, 3) := by decide +kernel
theorem dX12_look_125 : decode cX12_look 125 = .ok (.iload_n 3, 1) := by decide +kernel
theorem dX12_look_126 : decode cX12_look 126 = .ok (.if_icmp .gt 6, 3) := by decide +kernel
theorem dX12_look_129 : decode cX12_look 129 = .ok (.goto 17, 3) := by decide +kernel
theorem dX12_look_132 : decode cX12_look 132 = .ok (.iload 4, 2) := by decide +kernel
theorem dX12_look_134 : decode cX12_look 134 = .ok (.istore_n 2, 1) := by decide +kernel
theorem dX12_look_135 : decode cX12_look 135 = .ok (.aload_n 0, 1) := by decide +kernel
theorem dX12_look_136 : decode cX12_look 136 = .ok (.getfield 84, 3) := by decide +kernel
theorem dX12_look_139 : decode cX12_look 139 = .ok (.iload 4, 2) := by decide +kernel
theorem dX12_look_141 : decode cX12_look 141 = .ok (.iaload, 1) := by decide +kernel
theorem dX12_look_142 : decode cX12_look 142 = .ok (.invokestatic 291, 3) := by decide +kernel
theorem dX12_look_145 : decode cX12_look 145 = .ok (.istore_n 3, 1) := by decide +kernel
theorem dX12_look_146 : decode cX12_look 146 = .ok (.iinc 4 1, 3) := by decide +kernel
theorem dX12_look_149 : decode cX12_look 149 = .ok (.goto (-43), 3) := by decide +kernel
theorem dX12_look_152 : decode cX12_look 152 = .ok (.iload_n 1, 1) := by decide +kernel
theorem dX12_look_153 : decode cX12_look 153 = .ok (.ifCond .ne 7, 3) := by decide +kernel
theorem dX12_look_156 : decode cX12_look 156 = .ok (.iload_n 2, 1) := by decide +kernel
theorem dX12_look_157 : decode cX12_look 157 = .ok (.goto 4, 3) := by decide +kernel
theorem dX12_look_160 : decode cX12_look 160 = .ok (.iload_n 3, 1) := by decide +kernel
theorem dX12_look_161 : decode cX12_look 161 = .ok (.ireturn, 1) := by decide +kernel
theorem dX12_storms_0 : decode cX12_storms 0 = .ok (.aload_n 0, 1) := by decide +kernel
theorem dX12_storms_1 : decode cX12_storms 1 = .ok (.iconst 0, 1) := by decide +kernel
theorem dX12_storms_2 : decode cX12_storms 2 = .ok (.putfield 96, 3) := by decide +kernel
theorem dX12_storms_5 : decode cX12_storms 5 = .ok (.aload_n 0, 1) := by decide +kernel
theorem dX12_storms_6 : decode cX12_storms 6 = .ok (.iload_n 1, 1) := by decide +kernel
theorem dX12_storms_7 : decode cX12_storms 7 = .ok (.invokevirtual 368, 3) := by decide +kernel
theorem dX12_storms_10 : decode cX12_storms 10 = .ok (.ifCond .eq 44, 3) := by decide +kernel
theorem dX12_storms_13 : decode cX12_storms 13 = .ok (.aload_n 0, 1) := by decide +kernel
theorem dX12_storms_14 : decode cX12_storms 14 = .ok (.iload_n 2, 1) := by decide +kernel
theorem dX12_storms_15 : decode cX12_storms 15 = .ok (.invokevirtual 368, 3) := by decide +kernel
theorem dX12_storms_18 : decode cX12_storms 18 = .ok (.ifCond .eq 36, 3) := by decide +kernel
theorem dX12_storms_21 : decode cX12_storms 21 = .ok (.aload_n 0, 1) := by decide +kernel
theorem dX12_storms_22 : decode cX12_storms 22 = .ok (.iload_n 3, 1) := by decide +kernel
theorem dX12_storms_23 : decode cX12_storms 23 = .ok (.iconst 1, 1) := by decide +kernel
theorem dX12_storms_24 : decode cX12_storms 24 = .ok (.iconst 5, 1) := by decide +kernel
theorem dX12_storms_25 : decode cX12_storms 25 = .ok (.invokestatic 346, 3) := by decide +kernel
theorem dX12_storms_28 : decode cX12_storms 28 = .ok (.ifCond .eq 18, 3) := by decide +kernel
theorem dX12_storms_31 : decode cX12_storms 31 = .ok (.iload 4, 2) := by decide +kernel
theorem dX12_storms_33 : decode cX12_storms 33 = .ok (.iconst 0, 1) := by decide +kernel
theorem dX12_storms_34 : decode cX12_storms 34 = .ok (.bipush 10, 2) := by decide +kernel
theorem dX12_storms_36 : decode cX12_storms 36 = .ok (.invokestatic 346, 3) := by decide +kernel
theorem dX12_storms_39 : decode cX12_storms 39 = .ok (.ifCond .eq 7, 3) := by decide +kernel
theorem dX12_storms_42 : decode cX12_storms 42 = .ok (.iconst 1, 1) := by decide +kernel
theorem dX12_storms_43 : decode cX12_storms 43 = .ok (.goto 4, 3) := by decide +kernel
theorem dX12_storms_46 : decode cX12_storms 46 = .ok (.iconst 0, 1) := by decide +kernel
theorem dX12_storms_47 : decode cX12_storms 47 = .ok (.iconst 2, 1) := by decide +kernel
theorem dX12_storms_48 : decode cX12_storms 48 = .ok (.invokevirtual 257, 3) := by decide +kernel
theorem dX12_storms_51 : decode cX12_storms 51 = .ok (.ifCond .ne 5, 3) := by decide +kernel
theorem dX12_storms_54 : decode cX12_storms 54 = .ok (.iconst 0, 1) := by decide +kernel
theorem dX12_storms_55 : decode cX12_storms 55 = .ok (.ireturn, 1) := by decide +kernel
theorem dX12_storms_56 : decode cX12_storms 56 = .ok (.iconst 0, 1) := by decide +kernel
theorem dX12_storms_57 : decode cX12_storms 57 = .ok (.istore 5, 2) := by decide +kernel
theorem dX12_storms_59 : decode cX12_storms 59 = .ok (.iconst 0, 1) := by decide +kernel
theorem dX12_storms_60 : decode cX12_storms 60 = .ok (.istore 6, 2) := by decide +kernel
theorem dX12_storms_62 : decode cX12_storms 62 = .ok (.iload 6, 2) := by decide +kernel
theorem dX12_storms_64 : decode cX12_storms 64 = .ok (.iconst 1, 1) := by decide +kernel
theorem dX12_storms_65 : decode cX12_storms 65 = .ok (.iload_n 3, 1) := by decide +kernel
theorem dX12_storms_66 : decode cX12_storms 66 = .ok (.ishl, 1) := by decide +kernel
theorem dX12_storms_67 : decode cX12_storms 67 = .ok (.if_icmp .ge 99, 3) := by decide +kernel
theorem dX12_storms_70 : decode cX12_storms 70 = .ok (.iconst 1, 1) := by decide +kernel
theorem dX12_storms_71 : decode cX12_storms 71 = .ok (.istore 7, 2) := by decide +kernel
theorem dX12_storms_73 : decode cX12_storms 73 = .ok (.aload_n 0, 1) := by decide +kernel
theorem dX12_storms_74 : decode cX12_storms 74 = .ok (.invokevirtual 337, 3) := by decide +kernel
theorem dX12_storms_77 : decode cX12_storms 77 = .ok (.iconst 0, 1) := by decide +kernel
theorem dX12_storms_78 : decode cX12_storms 78 = .ok (.istore 8, 2) := by decide +kernel
theorem dX12_storms_80 : decode cX12_storms 80 = .ok (.iload 8, 2) := by decide +kernel
theorem dX12_storms_82 : decode cX12_storms 82 = .ok (.iload_n 3, 1) := by decide +kernel
theorem dX12_storms_83 : decode cX12_storms 83 = .ok (.if_icmp .ge 57, 3) := by decide +kernel
theorem dX12_storms_86 : decode cX12_storms 86 = .ok (.aload_n 0, 1) := by decide +kernel
theorem dX12_storms_87 : decode cX12_storms 87 = .ok (.iload 6, 2) := by decide +kernel
theorem dX12_storms_89 : decode cX12_storms 89 = .ok (.iload 8, 2) := by decide +kernel
theorem dX12_storms_91 : decode cX12_storms 91 = .ok (.ishr, 1) := by decide +kernel
theorem dX12_storms_92 : decode cX12_storms 92 = .ok (.iconst 1, 1) := by decide +kernel
theorem dX12_storms_93 : decode cX12_storms 93 = .ok (.iand, 1) := by decide +kernel
theorem dX12_storms_94 : decode cX12_storms 94 = .ok (.iconst 1, 1) := by decide +kernel
theorem dX12_storms_95 : decode cX12_storms 95 = .ok (.if_icmp .ne 7, 3) := by decide +kernel
theorem dX12_storms_98 : decode cX12_storms 98 = .ok (.iconst 1, 1) := by decide +kernel
theorem dX12_storms_99 : decode cX12_storms 99 = .ok (.goto 4, 3) := by decide +kernel
theorem dX12_storms_102 : decode cX12_storms 102 = .ok (.iconst 0, 1) := by decide +kernel
theorem dX12_storms_103 : decode cX12_storms 103 = .ok (.putfield 294, 3) := by decide +kernel
theorem dX12_storms_106 : decode cX12_storms 106 = .ok (.iload 7, 2) := by decide +kernel
theorem dX12_storms_108 : decode cX12_storms 108 = .ok (.aload_n 0, 1) := by decide +kernel
theorem dX12_storms_109 : decode cX12_storms 109 = .ok (.getfield 294, 3) := by decide +kernel
theorem dX12_storms_112 : decode cX12_storms 112 = .ok (.ifCond .eq 8, 3) := by decide +kernel
theorem dX12_storms_115 : decode cX12_storms 115 = .ok (.iload 4, 2) := by decide +kernel
theorem dX12_storms_117 : decode cX12_storms 117 = .ok (.goto 8, 3) := by decide +kernel
theorem dX12_storms_120 : decode cX12_storms 120 = .ok (.bipush 10, 2) := by decide +kernel
theorem dX12_storms_122 : decode cX12_storms 122 = .ok (.iload 4, 2) := by decide +kernel
