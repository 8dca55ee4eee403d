theorem dX12_number_63 : decode cX12_number 63 = .ok (.ifCond .eq 7, 3) := by decide +kernel
theorem dX12_number_66 : decode cX12_number 66 = .ok (.aload_n 0, 1) := by decide +kernel
theorem dX12_number_67 : decode cX12_number 67 = .ok (.invokevirtual 159, 3) := by decide +kernel
theorem dX12_number_70 : decode cX12_number 70 = .ok (.iload_n 3, 1) := by decide +kernel
theorem dX12_number_71 : decode cX12_number 71 = .ok (.ireturn, 1) := by decide +kernel
theorem dX12_isOneOf_0 : decode cX12_isOneOf 0 = .ok (.aload_n 0, 1) := by decide +kernel
theorem dX12_isOneOf_1 : decode cX12_isOneOf 1 = .ok (.invokevirtual 155, 3) := by decide +kernel
theorem dX12_isOneOf_4 : decode cX12_isOneOf 4 = .ok (.ifCond .ne 5, 3) := by decide +kernel
theorem dX12_isOneOf_7 : decode cX12_isOneOf 7 = .ok (.iconst 0, 1) := by decide +kernel
theorem dX12_isOneOf_8 : decode cX12_isOneOf 8 = .ok (.ireturn, 1) := by decide +kernel
theorem dX12_isOneOf_9 : decode cX12_isOneOf 9 = .ok (.aload_n 0, 1) := by decide +kernel
theorem dX12_isOneOf_10 : decode cX12_isOneOf 10 = .ok (.getfield 129, 3) := by decide +kernel
theorem dX12_isOneOf_13 : decode cX12_isOneOf 13 = .ok (.iconst 2, 1) := by decide +kernel
theorem dX12_isOneOf_14 : decode cX12_isOneOf 14 = .ok (.if_icmp .eq 11, 3) := by decide +kernel
theorem dX12_isOneOf_17 : decode cX12_isOneOf 17 = .ok (.aload_n 0, 1) := by decide +kernel
theorem dX12_isOneOf_18 : decode cX12_isOneOf 18 = .ok (.iconst 1, 1) := by decide +kernel
theorem dX12_isOneOf_19 : decode cX12_isOneOf 19 = .ok (.invokevirtual 162, 3) := by decide +kernel
theorem dX12_isOneOf_22 : decode cX12_isOneOf 22 = .ok (.goto 32, 3) := by decide +kernel
theorem dX12_isOneOf_25 : decode cX12_isOneOf 25 = .ok (.aload_n 0, 1) := by decide +kernel
theorem dX12_isOneOf_26 : decode cX12_isOneOf 26 = .ok (.getfield 139, 3) := by decide +kernel
theorem dX12_isOneOf_29 : decode cX12_isOneOf 29 = .ok (.iconst 4, 1) := by decide +kernel
theorem dX12_isOneOf_30 : decode cX12_isOneOf 30 = .ok (.if_icmp .le 11, 3) := by decide +kernel
theorem dX12_isOneOf_33 : decode cX12_isOneOf 33 = .ok (.aload_n 0, 1) := by decide +kernel
theorem dX12_isOneOf_34 : decode cX12_isOneOf 34 = .ok (.iconst 2, 1) := by decide +kernel
theorem dX12_isOneOf_35 : decode cX12_isOneOf 35 = .ok (.invokevirtual 162, 3) := by decide +kernel
theorem dX12_isOneOf_38 : decode cX12_isOneOf 38 = .ok (.goto 16, 3) := by decide +kernel
theorem dX12_isOneOf_41 : decode cX12_isOneOf 41 = .ok (.aload_n 0, 1) := by decide +kernel
theorem dX12_isOneOf_42 : decode cX12_isOneOf 42 = .ok (.getfield 123, 3) := by decide +kernel
theorem dX12_isOneOf_45 : decode cX12_isOneOf 45 = .ok (.iload_n 1, 1) := by decide +kernel
theorem dX12_isOneOf_46 : decode cX12_isOneOf 46 = .ok (.if_icmp .lt 8, 3) := by decide +kernel
theorem dX12_isOneOf_49 : decode cX12_isOneOf 49 = .ok (.aload_n 0, 1) := by decide +kernel
theorem dX12_isOneOf_50 : decode cX12_isOneOf 50 = .ok (.iconst 3, 1) := by decide +kernel
theorem dX12_isOneOf_51 : decode cX12_isOneOf 51 = .ok (.invokevirtual 162, 3) := by decide +kernel
theorem dX12_isOneOf_54 : decode cX12_isOneOf 54 = .ok (.aload_n 0, 1) := by decide +kernel
theorem dX12_isOneOf_55 : decode cX12_isOneOf 55 = .ok (.invokevirtual 155, 3) := by decide +kernel
theorem dX12_isOneOf_58 : decode cX12_isOneOf 58 = .ok (.ireturn, 1) := by decide +kernel
theorem dX12_puts_0 : decode cX12_puts 0 = .ok (.aload_n 0, 1) := by decide +kernel
theorem dX12_puts_1 : decode cX12_puts 1 = .ok (.getfield 38, 3) := by decide +kernel
theorem dX12_puts_4 : decode cX12_puts 4 = .ok (.aload_n 0, 1) := by decide +kernel
theorem dX12_puts_5 : decode cX12_puts 5 = .ok (.getfield 165, 3) := by decide +kernel
theorem dX12_puts_8 : decode cX12_puts 8 = .ok (.iload_n 1, 1) := by decide +kernel
theorem dX12_puts_9 : decode cX12_puts 9 = .ok (.iastore, 1) := by decide +kernel
theorem dX12_puts_10 : decode cX12_puts 10 = .ok (.aload_n 0, 1) := by decide +kernel
theorem dX12_puts_11 : decode cX12_puts 11 = .ok (.dup, 1) := by decide +kernel
theorem dX12_puts_12 : decode cX12_puts 12 = .ok (.getfield 165, 3) := by decide +kernel
theorem dX12_puts_15 : decode cX12_puts 15 = .ok (.iconst 1, 1) := by decide +kernel
theorem dX12_puts_16 : decode cX12_puts 16 = .ok (.iadd, 1) := by decide +kernel
theorem dX12_puts_17 : decode cX12_puts 17 = .ok (.putfield 165, 3) := by decide +kernel
theorem dX12_puts_20 : decode cX12_puts 20 = .ok (.return_, 1) := by decide +kernel
theorem dX12_isOpen_0 : decode cX12_isOpen 0 = .ok (.iload_n 0, 1) := by decide +kernel
theorem dX12_isOpen_1 : decode cX12_isOpen 1 = .ok (.bipush 14, 2) := by decide +kernel
theorem dX12_isOpen_3 : decode cX12_isOpen 3 = .ok (.if_icmp .lt 7, 3) := by decide +kernel
theorem dX12_isOpen_6 : decode cX12_isOpen 6 = .ok (.iconst 1, 1) := by decide +kernel
theorem dX12_isOpen_7 : decode cX12_isOpen 7 = .ok (.goto 4, 3) := by decide +kernel
theorem dX12_isOpen_10 : decode cX12_isOpen 10 = .ok (.iconst 0, 1) := by decide +kernel
theorem dX12_isOpen_11 : decode cX12_isOpen 11 = .ok (.ireturn, 1) := by decide +kernel
theorem dX12_strength_0 : decode cX12_strength 0 = .ok (.iload_n 0, 1) := by decide +kernel
theorem dX12_strength_1 : decode cX12_strength 1 = .ok (.iconst 5, 1) := by decide +kernel
theorem dX12_strength_2 : decode cX12_strength 2 = .ok (.if_icmp .ne 7, 3) := by decide +kernel
theorem dX12_strength_5 : decode cX12_strength 5 = .ok (.iconst 1, 1) := by decide +kernel
theorem dX12_strength_6 : decode cX12_strength 6 = .ok (.goto 55, 3) := by decide +kernel
theorem dX12_strength_9 : decode cX12_strength 9 = .ok (.iload_n 0, 1) := by decide +kernel
theorem dX12_strength_10 : decode cX12_strength 10 = .ok (.iconst 4, 1) := by decide +kernel
theorem dX12_strength_11 : decode cX12_strength 11 = .ok (.if_icmp .ne 7, 3) := by decide +kernel
theorem dX12_strength_14 : decode cX12_strength 14 = .ok (.iconst 2, 1) := by decide +kernel
theorem dX12_strength_15 : decode cX12_strength 15 = .ok (.goto 46, 3) := by decide +kernel
theorem dX12_strength_18 : decode cX12_strength 18 = .ok (.iload_n 0, 1) := by decide +kernel
theorem dX12_strength_19 : decode cX12_strength 19 = .ok (.iconst 3, 1) := by decide +kernel
theorem dX12_strength_20 : decode cX12_strength 20 = .ok (.if_icmp .ne 7, 3) := by decide +kernel
theorem dX12_strength_23 : decode cX12_strength 23 = .ok (.iconst 3, 1) := by decide +kernel
theorem dX12_strength_24 : decode cX12_strength 24 = .ok (.goto 37, 3) := by decide +kernel
theorem dX12_strength_27 : decode cX12_strength 27 = .ok (.iload_n 0, 1) := by decide +kernel
theorem dX12_strength_28 : decode cX12_strength 28 = .ok (.bipush 6, 2) := by decide +kernel
theorem dX12_strength_30 : decode cX12_strength 30 = .ok (.if_icmp .eq 9, 3) := by decide +kernel
theorem dX12_strength_33 : decode cX12_strength 33 = .ok (.iload_n 0, 1) := by decide +kernel
theorem dX12_strength_34 : decode cX12_strength 34 = .ok (.bipush 7, 2) := by decide +kernel
theorem dX12_strength_36 : decode cX12_strength 36 = .ok (.if_icmp .ne 7, 3) := by decide +kernel
theorem dX12_strength_39 : decode cX12_strength 39 = .ok (.iconst 4, 1) := by decide +kernel
theorem dX12_strength_40 : decode cX12_strength 40 = .ok (.goto 21, 3) := by decide +kernel
theorem dX12_strength_43 : decode cX12_strength 43 = .ok (.iload_n 0, 1) := by decide +kernel
theorem dX12_strength_44 : decode cX12_strength 44 = .ok (.bipush 8, 2) := by decide +kernel
theorem dX12_strength_46 : decode cX12_strength 46 = .ok (.if_icmp .eq 9, 3) := by decide +kernel
theorem dX12_strength_49 : decode cX12_strength 49 = .ok (.iload_n 0, 1) := by decide +kernel
theorem dX12_strength_50 : decode cX12_strength 50 = .ok (.bipush 9, 2) := by decide +kernel
theorem dX12_strength_52 : decode cX12_strength 52 = .ok (.if_icmp .ne 7, 3) := by decide +kernel
theorem dX12_strength_55 : decode cX12_strength 55 = .ok (.iconst 5, 1) := by decide +kernel
theorem dX12_strength_56 : decode cX12_strength 56 = .ok (.goto 5, 3) := by decide +kernel
theorem dX12_strength_59 : decode cX12_strength 59 = .ok (.bipush 6, 2) := by decide +kernel
theorem dX12_strength_61 : decode cX12_strength 61 = .ok (.ireturn, 1) := by decide +kernel
theorem dX12_drops_0 : decode cX12_drops 0 = .ok (.aload_n 0, 1) := by decide +kernel
theorem dX12_drops_1 : decode cX12_drops 1 = .ok (.getfield 168, 3) := by decide +kernel
theorem dX12_drops_4 : decode cX12_drops 4 = .ok (.ifCond .le 64, 3) := by decide +kernel
theorem dX12_drops_7 : decode cX12_drops 7 = .ok (.aload_n 0, 1) := by decide +kernel
theorem dX12_drops_8 : decode cX12_drops 8 = .ok (.getfield 41, 3) := by decide +kernel
theorem dX12_drops_11 : decode cX12_drops 11 = .ok (.aload_n 0, 1) := by decide +kernel
theorem dX12_drops_12 : decode cX12_drops 12 = .ok (.getfield 168, 3) := by decide +kernel
theorem dX12_drops_15 : decode cX12_drops 15 = .ok (.iconst 1, 1) := by decide +kernel
theorem dX12_drops_16 : decode cX12_drops 16 = .ok (.isub, 1) := by decide +kernel
theorem dX12_drops_17 : decode cX12_drops 17 = .ok (.iaload, 1) := by decide +kernel
theorem dX12_drops_18 : decode cX12_drops 18 = .ok (.invokestatic 171, 3) := by decide +kernel
theorem dX12_drops_21 : decode cX12_drops 21 = .ok (.ifCond .ne 47, 3) := by decide +kernel
theorem dX12_drops_24 : decode cX12_drops 24 = .ok (.aload_n 0, 1) := by decide +kernel
theorem dX12_drops_25 : decode cX12_drops 25 = .ok (.getfield 41, 3) := by decide +kernel
theorem dX12_drops_28 : decode cX12_drops 28 = .ok (.aload_n 0, 1) := by decide +kernel
theorem dX12_drops_29 : decode cX12_drops 29 = .ok (.getfield 168, 3) := by decide +kernel
theorem dX12_drops_32 : decode cX12_drops 32 = .ok (.iconst 1, 1) := by decide +kernel
theorem dX12_drops_33 : decode cX12_drops 33 = .ok (.isub, 1) := by decide +kernel
theorem dX12_drops_34 : decode cX12_drops 34 = .ok (.iaload, 1) := by decide +kernel
theorem dX12_drops_35 : decode cX12_drops 35 = .ok (.invokestatic 174, 3) := by decide +kernel
theorem dX12_drops_38 : decode cX12_drops 38 = .ok (.iload_n 1, 1) := by decide +kernel
theorem dX12_drops_39 : decode cX12_drops 39 = .ok (.if_icmp .lt 29, 3) := by decide +kernel
theorem dX12_drops_42 : decode cX12_drops 42 = .ok (.aload_n 0, 1) := by decide +kernel
theorem dX12_drops_43 : decode cX12_drops 43 = .ok (.dup, 1) := by decide +kernel
theorem dX12_drops_44 : decode cX12_drops 44 = .ok (.getfield 168, 3) := by decide +kernel
theorem dX12_drops_47 : decode cX12_drops 47 = .ok (.iconst 1, 1) := by decide +kernel
theorem dX12_drops_48 : decode cX12_drops 48 = .ok (.isub, 1) := by decide +kernel
theorem dX12_drops_49 : decode cX12_drops 49 = .ok (.putfield 168, 3) := by decide +kernel
theorem dX12_drops_52 : decode cX12_drops 52 = .ok (.aload_n 0, 1) := by decide +kernel
theorem dX12_drops_53 : decode cX12_drops 53 = .ok (.aload_n 0, 1) := by decide +kernel
theorem dX12_drops_54 : decode cX12_drops 54 = .ok (.getfield 41, 3) := by decide +kernel
theorem dX12_drops_57 : decode cX12_drops 57 = .ok (.aload_n 0, 1) := by decide +kernel
theorem dX12_drops_58 : decode cX12_drops 58 = .ok (.getfield 168, 3) := by decide +kernel
theorem dX12_drops_61 : decode cX12_drops 61 = .ok (.iaload, 1) := by decide +kernel
theorem dX12_drops_62 : decode cX12_drops 62 = .ok (.invokevirtual 177, 3) := by decide +kernel
theorem dX12_drops_65 : decode cX12_drops 65 = .ok (.goto (-65), 3) := by decide +kernel
theorem dX12_drops_68 : decode cX12_drops 68 = .ok (.return_, 1) := by decide +kernel
theorem dX12_waitsFor_0 : decode cX12_waitsFor 0 = .ok (.aload_n 0, 1) := by decide +kernel
theorem dX12_waitsFor_1 : decode cX12_waitsFor 1 = .ok (.getfield 41, 3) := by decide +kernel
theorem dX12_waitsFor_4 : decode cX12_waitsFor 4 = .ok (.aload_n 0, 1) := by decide +kernel
theorem dX12_waitsFor_5 : decode cX12_waitsFor 5 = .ok (.getfield 168, 3) := by decide +kernel
theorem dX12_waitsFor_8 : decode cX12_waitsFor 8 = .ok (.iload_n 1, 1) := by decide +kernel
theorem dX12_waitsFor_9 : decode cX12_waitsFor 9 = .ok (.iastore, 1) := by decide +kernel
theorem dX12_waitsFor_10 : decode cX12_waitsFor 10 = .ok (.aload_n 0, 1) := by decide +kernel
theorem dX12_waitsFor_11 : decode cX12_waitsFor 11 = .ok (.dup, 1) := by decide +kernel
theorem dX12_waitsFor_12 : decode cX12_waitsFor 12 = .ok (.getfield 168, 3) := by decide +kernel
theorem dX12_waitsFor_15 : decode cX12_waitsFor 15 = .ok (.iconst 1, 1) := by decide +kernel
theorem dX12_waitsFor_16 : decode cX12_waitsFor 16 = .ok (.iadd, 1) := by decide +kernel
theorem dX12_waitsFor_17 : decode cX12_waitsFor 17 = .ok (.putfield 168, 3) := by decide +kernel
theorem dX12_waitsFor_20 : decode cX12_waitsFor 20 = .ok (.return_, 1) := by decide +kernel
theorem dX12_part_0 : decode cX12_part 0 = .ok (.aload_n 0, 1) := by decide +kernel
theorem dX12_part_1 : decode cX12_part 1 = .ok (.invokevirtual 155, 3) := by decide +kernel
theorem dX12_part_4 : decode cX12_part 4 = .ok (.ifCond .ne 4, 3) := by decide +kernel
theorem dX12_part_7 : decode cX12_part 7 = .ok (.return_, 1) := by decide +kernel
theorem dX12_part_8 : decode cX12_part 8 = .ok (.aload_n 0, 1) := by decide +kernel
theorem dX12_part_9 : decode cX12_part 9 = .ok (.getfield 129, 3) := by decide +kernel
theorem dX12_part_12 : decode cX12_part 12 = .ok (.iconst 2, 1) := by decide +kernel
theorem dX12_part_13 : decode cX12_part 13 = .ok (.if_icmp .ne 32, 3) := by decide +kernel
theorem dX12_part_16 : decode cX12_part 16 = .ok (.aload_n 0, 1) := by decide +kernel
theorem dX12_part_17 : decode cX12_part 17 = .ok (.getfield 139, 3) := by decide +kernel
theorem dX12_part_20 : decode cX12_part 20 = .ok (.iconst 4, 1) := by decide +kernel
theorem dX12_part_21 : decode cX12_part 21 = .ok (.if_icmp .le 8, 3) := by decide +kernel
theorem dX12_part_24 : decode cX12_part 24 = .ok (.aload_n 0, 1) := by decide +kernel
theorem dX12_part_25 : decode cX12_part 25 = .ok (.iconst 2, 1) := by decide +kernel
theorem dX12_part_26 : decode cX12_part 26 = .ok (.invokevirtual 162, 3) := by decide +kernel
theorem dX12_part_29 : decode cX12_part 29 = .ok (.aload_n 0, 1) := by decide +kernel
theorem dX12_part_30 : decode cX12_part 30 = .ok (.iconst 1, 1) := by decide +kernel
theorem dX12_part_31 : decode cX12_part 31 = .ok (.invokevirtual 177, 3) := by decide +kernel
theorem dX12_part_34 : decode cX12_part 34 = .ok (.aload_n 0, 1) := by decide +kernel
theorem dX12_part_35 : decode cX12_part 35 = .ok (.aload_n 0, 1) := by decide +kernel
theorem dX12_part_36 : decode cX12_part 36 = .ok (.getfield 123, 3) := by decide +kernel
theorem dX12_part_39 : decode cX12_part 39 = .ok (.invokevirtual 177, 3) := by decide +kernel
theorem dX12_part_42 : decode cX12_part 42 = .ok (.goto 55, 3) := by decide +kernel
theorem dX12_part_45 : decode cX12_part 45 = .ok (.aload_n 0, 1) := by decide +kernel
theorem dX12_part_46 : decode cX12_part 46 = .ok (.getfield 129, 3) := by decide +kernel
theorem dX12_part_49 : decode cX12_part 49 = .ok (.iconst 1, 1) := by decide +kernel
theorem dX12_part_50 : decode cX12_part 50 = .ok (.if_icmp .ne 42, 3) := by decide +kernel
theorem dX12_part_53 : decode cX12_part 53 = .ok (.aload_n 0, 1) := by decide +kernel
theorem dX12_part_54 : decode cX12_part 54 = .ok (.invokevirtual 180, 3) := by decide +kernel
theorem dX12_part_57 : decode cX12_part 57 = .ok (.istore_n 1, 1) := by decide +kernel
theorem dX12_part_58 : decode cX12_part 58 = .ok (.iload_n 1, 1) := by decide +kernel
theorem dX12_part_59 : decode cX12_part 59 = .ok (.aload_n 0, 1) := by decide +kernel
theorem dX12_part_60 : decode cX12_part 60 = .ok (.getfield 184, 3) := by decide +kernel
theorem dX12_part_63 : decode cX12_part 63 = .ok (.if_icmp .lt 11, 3) := by decide +kernel
theorem dX12_part_66 : decode cX12_part 66 = .ok (.iload_n 1, 1) := by decide +kernel
theorem dX12_part_67 : decode cX12_part 67 = .ok (.aload_n 0, 1) := by decide +kernel
theorem dX12_part_68 : decode cX12_part 68 = .ok (.getfield 187, 3) := by decide +kernel
theorem dX12_part_71 : decode cX12_part 71 = .ok (.if_icmp .le 8, 3) := by decide +kernel
theorem dX12_part_74 : decode cX12_part 74 = .ok (.aload_n 0, 1) := by decide +kernel
theorem dX12_part_75 : decode cX12_part 75 = .ok (.iconst 3, 1) := by decide +kernel
theorem dX12_part_76 : decode cX12_part 76 = .ok (.invokevirtual 162, 3) := by decide +kernel
theorem dX12_part_79 : decode cX12_part 79 = .ok (.aload_n 0, 1) := by decide +kernel
theorem dX12_part_80 : decode cX12_part 80 = .ok (.iconst 2, 1) := by decide +kernel
theorem dX12_part_81 : decode cX12_part 81 = .ok (.invokevirtual 177, 3) := by decide +kernel
theorem dX12_part_84 : decode cX12_part 84 = .ok (.aload_n 0, 1) := by decide +kernel
theorem dX12_part_85 : decode cX12_part 85 = .ok (.iload_n 1, 1) := by decide +kernel
theorem dX12_part_86 : decode cX12_part 86 = .ok (.invokevirtual 177, 3) := by decide +kernel
theorem dX12_part_89 : decode cX12_part 89 = .ok (.goto 8, 3) := by decide +kernel
theorem dX12_part_92 : decode cX12_part 92 = .ok (.aload_n 0, 1) := by decide +kernel
theorem dX12_part_93 : decode cX12_part 93 = .ok (.iconst 1, 1) := by decide +kernel
theorem dX12_part_94 : decode cX12_part 94 = .ok (.invokevirtual 162, 3) := by decide +kernel
theorem dX12_part_97 : decode cX12_part 97 = .ok (.aload_n 0, 1) := by decide +kernel
theorem dX12_part_98 : decode cX12_part 98 = .ok (.invokevirtual 155, 3) := by decide +kernel
theorem dX12_part_101 : decode cX12_part 101 = .ok (.ifCond .eq 7, 3) := by decide +kernel
theorem dX12_part_104 : decode cX12_part 104 = .ok (.aload_n 0, 1) := by decide +kernel
theorem dX12_part_105 : decode cX12_part 105 = .ok (.invokevirtual 159, 3) := by decide +kernel
theorem dX12_part_108 : decode cX12_part 108 = .ok (.return_, 1) := by decide +kernel
theorem dX12_deeper_0 : decode cX12_deeper 0 = .ok (.aload_n 0, 1) := by decide +kernel
theorem dX12_deeper_1 : decode cX12_deeper 1 = .ok (.getfield 190, 3) := by decide +kernel
theorem dX12_deeper_4 : decode cX12_deeper 4 = .ok (.bipush 6, 2) := by decide +kernel
theorem dX12_deeper_6 : decode cX12_deeper 6 = .ok (.if_icmp .ge 24, 3) := by decide +kernel
theorem dX12_deeper_9 : decode cX12_deeper 9 = .ok (.aload_n 0, 1) := by decide +kernel
theorem dX12_deeper_10 : decode cX12_deeper 10 = .ok (.dup, 1) := by decide +kernel
theorem dX12_deeper_11 : decode cX12_deeper 11 = .ok (.getfield 190, 3) := by decide +kernel
theorem dX12_deeper_14 : decode cX12_deeper 14 = .ok (.iconst 1, 1) := by decide +kernel
theorem dX12_deeper_15 : decode cX12_deeper 15 = .ok (.iadd, 1) := by decide +kernel
theorem dX12_deeper_16 : decode cX12_deeper 16 = .ok (.putfield 190, 3) := by decide +kernel
theorem dX12_deeper_19 : decode cX12_deeper 19 = .ok (.aload_n 0, 1) := by decide +kernel
theorem dX12_deeper_20 : decode cX12_deeper 20 = .ok (.getfield 44, 3) := by decide +kernel
theorem dX12_deeper_23 : decode cX12_deeper 23 = .ok (.aload_n 0, 1) := by decide +kernel
theorem dX12_deeper_24 : decode cX12_deeper 24 = .ok (.getfield 190, 3) := by decide +kernel
theorem dX12_deeper_27 : decode cX12_deeper 27 = .ok (.iconst 0, 1) := by decide +kernel
theorem dX12_deeper_28 : decode cX12_deeper 28 = .ok (.bastore, 1) := by decide +kernel
theorem dX12_deeper_29 : decode cX12_deeper 29 = .ok (.return_, 1) := by decide +kernel
theorem dX12_deeper_30 : decode cX12_deeper 30 = .ok (.aload_n 0, 1) := by decide +kernel
theorem dX12_deeper_31 : decode cX12_deeper 31 = .ok (.aload_n 0, 1) := by decide +kernel
theorem dX12_deeper_32 : decode cX12_deeper 32 = .ok (.getfield 129, 3) := by decide +kernel
theorem dX12_deeper_35 : decode cX12_deeper 35 = .ok (.iconst 2, 1) := by decide +kernel
theorem dX12_deeper_36 : decode cX12_deeper 36 = .ok (.if_icmp .eq 20, 3) := by decide +kernel
theorem dX12_deeper_39 : decode cX12_deeper 39 = .ok (.aload_n 0, 1) := by decide +kernel
theorem dX12_deeper_40 : decode cX12_deeper 40 = .ok (.getfield 129, 3) := by decide +kernel
theorem dX12_deeper_43 : decode cX12_deeper 43 = .ok (.iconst 1, 1) := by decide +kernel
theorem dX12_deeper_44 : decode cX12_deeper 44 = .ok (.if_icmp .eq 12, 3) := by decide +kernel
theorem dX12_deeper_47 : decode cX12_deeper 47 = .ok (.aload_n 0, 1) := by decide +kernel
theorem dX12_deeper_48 : decode cX12_deeper 48 = .ok (.bipush 40, 2) := by decide +kernel
theorem dX12_deeper_50 : decode cX12_deeper 50 = .ok (.invokevirtual 193, 3) := by decide +kernel
theorem dX12_deeper_53 : decode cX12_deeper 53 = .ok (.ifCond .eq 7, 3) := by decide +kernel
theorem dX12_deeper_56 : decode cX12_deeper 56 = .ok (.iconst 2, 1) := by decide +kernel
theorem dX12_deeper_57 : decode cX12_deeper 57 = .ok (.goto 4, 3) := by decide +kernel
theorem dX12_deeper_60 : decode cX12_deeper 60 = .ok (.iconst 1, 1) := by decide +kernel
theorem dX12_deeper_61 : decode cX12_deeper 61 = .ok (.invokevirtual 162, 3) := by decide +kernel
theorem dX12_deeper_64 : decode cX12_deeper 64 = .ok (.return_, 1) := by decide +kernel
theorem dX12_operand_0 : decode cX12_operand 0 = .ok (.iload_n 1, 1) := by decide +kernel
theorem dX12_operand_1 : decode cX12_operand 1 = .ok (.istore_n 2, 1) := by decide +kernel
theorem dX12_operand_2 : decode cX12_operand 2 = .ok (.iconst 1, 1) := by decide +kernel
theorem dX12_operand_3 : decode cX12_operand 3 = .ok (.istore_n 3, 1) := by decide +kernel
theorem dX12_operand_4 : decode cX12_operand 4 = .ok (.iload_n 3, 1) := by decide +kernel
theorem dX12_operand_5 : decode cX12_operand 5 = .ok (.ifCond .eq 115, 3) := by decide +kernel
theorem dX12_operand_8 : decode cX12_operand 8 = .ok (.aload_n 0, 1) := by decide +kernel
theorem dX12_operand_9 : decode cX12_operand 9 = .ok (.invokevirtual 155, 3) := by decide +kernel
theorem dX12_operand_12 : decode cX12_operand 12 = .ok (.ifCond .eq 108, 3) := by decide +kernel
theorem dX12_operand_15 : decode cX12_operand 15 = .ok (.iconst 0, 1) := by decide +kernel
theorem dX12_operand_16 : decode cX12_operand 16 = .ok (.istore 4, 2) := by decide +kernel
theorem dX12_operand_18 : decode cX12_operand 18 = .ok (.aload_n 0, 1) := by decide +kernel
theorem dX12_operand_19 : decode cX12_operand 19 = .ok (.invokevirtual 155, 3) := by decide +kernel
theorem dX12_operand_22 : decode cX12_operand 22 = .ok (.ifCond .eq 53, 3) := by decide +kernel
theorem dX12_operand_25 : decode cX12_operand 25 = .ok (.iload_n 2, 1) := by decide +kernel
theorem dX12_operand_26 : decode cX12_operand 26 = .ok (.ifCond .eq 49, 3) := by decide +kernel
theorem dX12_operand_29 : decode cX12_operand 29 = .ok (.aload_n 0, 1) := by decide +kernel
theorem dX12_operand_30 : decode cX12_operand 30 = .ok (.invokevirtual 180, 3) := by decide +kernel
theorem dX12_operand_33 : decode cX12_operand 33 = .ok (.bipush 15, 2) := by decide +kernel
theorem dX12_operand_35 : decode cX12_operand 35 = .ok (.if_icmp .ne 40, 3) := by decide +kernel
theorem dX12_operand_38 : decode cX12_operand 38 = .ok (.iload 4, 2) := by decide +kernel
theorem dX12_operand_40 : decode cX12_operand 40 = .ok (.bipush 6, 2) := by decide +kernel
theorem dX12_operand_42 : decode cX12_operand 42 = .ok (.if_icmp .ne 8, 3) := by decide +kernel
theorem dX12_operand_45 : decode cX12_operand 45 = .ok (.aload_n 0, 1) := by decide +kernel
theorem dX12_operand_46 : decode cX12_operand 46 = .ok (.iconst 2, 1) := by decide +kernel
theorem dX12_operand_47 : decode cX12_operand 47 = .ok (.invokevirtual 162, 3) := by decide +kernel
theorem dX12_operand_50 : decode cX12_operand 50 = .ok (.iinc 4 1, 3) := by decide +kernel
theorem dX12_operand_53 : decode cX12_operand 53 = .ok (.aload_n 0, 1) := by decide +kernel
theorem dX12_operand_54 : decode cX12_operand 54 = .ok (.invokevirtual 155, 3) := by decide +kernel
theorem dX12_operand_57 : decode cX12_operand 57 = .ok (.ifCond .ne 6, 3) := by decide +kernel
theorem dX12_operand_60 : decode cX12_operand 60 = .ok (.goto (-42), 3) := by decide +kernel
theorem dX12_operand_63 : decode cX12_operand 63 = .ok (.aload_n 0, 1) := by decide +kernel
theorem dX12_operand_64 : decode cX12_operand 64 = .ok (.iconst 3, 1) := by decide +kernel
theorem dX12_operand_65 : decode cX12_operand 65 = .ok (.invokevirtual 196, 3) := by decide +kernel
theorem dX12_operand_68 : decode cX12_operand 68 = .ok (.aload_n 0, 1) := by decide +kernel
theorem dX12_operand_69 : decode cX12_operand 69 = .ok (.invokevirtual 159, 3) := by decide +kernel
theorem dX12_operand_72 : decode cX12_operand 72 = .ok (.goto (-54), 3) := by decide +kernel
theorem dX12_operand_75 : decode cX12_operand 75 = .ok (.aload_n 0, 1) := by decide +kernel
theorem dX12_operand_76 : decode cX12_operand 76 = .ok (.invokevirtual 155, 3) := by decide +kernel
theorem dX12_operand_79 : decode cX12_operand 79 = .ok (.ifCond .eq 16, 3) := by decide +kernel
theorem dX12_operand_82 : decode cX12_operand 82 = .ok (.aload_n 0, 1) := by decide +kernel
theorem dX12_operand_83 : decode cX12_operand 83 = .ok (.bipush 40, 2) := by decide +kernel
theorem dX12_operand_85 : decode cX12_operand 85 = .ok (.invokevirtual 193, 3) := by decide +kernel
theorem dX12_operand_88 : decode cX12_operand 88 = .ok (.ifCond .eq 7, 3) := by decide +kernel
theorem dX12_operand_91 : decode cX12_operand 91 = .ok (.iconst 1, 1) := by decide +kernel
theorem dX12_operand_92 : decode cX12_operand 92 = .ok (.goto 4, 3) := by decide +kernel
theorem dX12_operand_95 : decode cX12_operand 95 = .ok (.iconst 0, 1) := by decide +kernel
theorem dX12_operand_96 : decode cX12_operand 96 = .ok (.istore_n 3, 1) := by decide +kernel
theorem dX12_operand_97 : decode cX12_operand 97 = .ok (.iload_n 3, 1) := by decide +kernel
theorem dX12_operand_98 : decode cX12_operand 98 = .ok (.ifCond .eq 19, 3) := by decide +kernel
theorem dX12_operand_101 : decode cX12_operand 101 = .ok (.aload_n 0, 1) := by decide +kernel
theorem dX12_operand_102 : decode cX12_operand 102 = .ok (.bipush 14, 2) := by decide +kernel
theorem dX12_operand_104 : decode cX12_operand 104 = .ok (.invokevirtual 196, 3) := by decide +kernel
theorem dX12_operand_107 : decode cX12_operand 107 = .ok (.aload_n 0, 1) := by decide +kernel
theorem dX12_operand_108 : decode cX12_operand 108 = .ok (.invokevirtual 159, 3) := by decide +kernel
theorem dX12_operand_111 : decode cX12_operand 111 = .ok (.aload_n 0, 1) := by decide +kernel
theorem dX12_operand_112 : decode cX12_operand 112 = .ok (.invokevirtual 199, 3) := by decide +kernel
theorem dX12_operand_115 : decode cX12_operand 115 = .ok (.iconst 1, 1) := by decide +kernel
theorem dX12_operand_116 : decode cX12_operand 116 = .ok (.istore_n 2, 1) := by decide +kernel
theorem dX12_operand_117 : decode cX12_operand 117 = .ok (.goto (-113), 3) := by decide +kernel
theorem dX12_operand_120 : decode cX12_operand 120 = .ok (.aload_n 0, 1) := by decide +kernel
theorem dX12_operand_121 : decode cX12_operand 121 = .ok (.invokevirtual 202, 3) := by decide +kernel
theorem dX12_operand_124 : decode cX12_operand 124 = .ok (.return_, 1) := by decide +kernel
theorem dX12_isOpened_0 : decode cX12_isOpened 0 = .ok (.aload_n 0, 1) := by decide +kernel
theorem dX12_isOpened_1 : decode cX12_isOpened 1 = .ok (.getfield 168, 3) := by decide +kernel
theorem dX12_isOpened_4 : decode cX12_isOpened 4 = .ok (.iconst 1, 1) := by decide +kernel
theorem dX12_isOpened_5 : decode cX12_isOpened 5 = .ok (.isub, 1) := by decide +kernel
theorem dX12_isOpened_6 : decode cX12_isOpened 6 = .ok (.istore_n 1, 1) := by decide +kernel
theorem dX12_isOpened_7 : decode cX12_isOpened 7 = .ok (.iload_n 1, 1) := by decide +kernel
theorem dX12_isOpened_8 : decode cX12_isOpened 8 = .ok (.ifCond .lt 21, 3) := by decide +kernel
theorem dX12_isOpened_11 : decode cX12_isOpened 11 = .ok (.aload_n 0, 1) := by decide +kernel
theorem dX12_isOpened_12 : decode cX12_isOpened 12 = .ok (.getfield 41, 3) := by decide +kernel
theorem dX12_isOpened_15 : decode cX12_isOpened 15 = .ok (.iload_n 1, 1) := by decide +kernel
theorem dX12_isOpened_16 : decode cX12_isOpened 16 = .ok (.iaload, 1) := by decide +kernel
theorem dX12_isOpened_17 : decode cX12_isOpened 17 = .ok (.invokestatic 171, 3) := by decide +kernel
theorem dX12_isOpened_20 : decode cX12_isOpened 20 = .ok (.ifCond .ne 9, 3) := by decide +kernel
theorem dX12_isOpened_23 : decode cX12_isOpened 23 = .ok (.iinc 1 (-1), 3) := by decide +kernel
theorem dX12_isOpened_26 : decode cX12_isOpened 26 = .ok (.goto (-19), 3) := by decide +kernel
theorem dX12_isOpened_29 : decode cX12_isOpened 29 = .ok (.iload_n 1, 1) := by decide +kernel
theorem dX12_isOpened_30 : decode cX12_isOpened 30 = .ok (.ifCond .lt 7, 3) := by decide +kernel
theorem dX12_isOpened_33 : decode cX12_isOpened 33 = .ok (.iconst 1, 1) := by decide +kernel
theorem dX12_isOpened_34 : decode cX12_isOpened 34 = .ok (.goto 4, 3) := by decide +kernel
theorem dX12_isOpened_37 : decode cX12_isOpened 37 = .ok (.iconst 0, 1) := by decide +kernel
theorem dX12_isOpened_38 : decode cX12_isOpened 38 = .ok (.ireturn, 1) := by decide +kernel
theorem dX12_closes_0 : decode cX12_closes 0 = .ok (.aload_n 0, 1) := by decide +kernel
theorem dX12_closes_1 : decode cX12_closes 1 = .ok (.iconst 0, 1) := by decide +kernel
theorem dX12_closes_2 : decode cX12_closes 2 = .ok (.invokevirtual 205, 3) := by decide +kernel
theorem dX12_closes_5 : decode cX12_closes 5 = .ok (.aload_n 0, 1) := by decide +kernel
theorem dX12_closes_6 : decode cX12_closes 6 = .ok (.dup, 1) := by decide +kernel
theorem dX12_closes_7 : decode cX12_closes 7 = .ok (.getfield 168, 3) := by decide +kernel
theorem dX12_closes_10 : decode cX12_closes 10 = .ok (.iconst 1, 1) := by decide +kernel
theorem dX12_closes_11 : decode cX12_closes 11 = .ok (.isub, 1) := by decide +kernel
theorem dX12_closes_12 : decode cX12_closes 12 = .ok (.putfield 168, 3) := by decide +kernel
theorem dX12_closes_15 : decode cX12_closes 15 = .ok (.aload_n 0, 1) := by decide +kernel
theorem dX12_closes_16 : decode cX12_closes 16 = .ok (.dup, 1) := by decide +kernel
theorem dX12_closes_17 : decode cX12_closes 17 = .ok (.getfield 190, 3) := by decide +kernel
theorem dX12_closes_20 : decode cX12_closes 20 = .ok (.iconst 1, 1) := by decide +kernel
theorem dX12_closes_21 : decode cX12_closes 21 = .ok (.isub, 1) := by decide +kernel
theorem dX12_closes_22 : decode cX12_closes 22 = .ok (.putfield 190, 3) := by decide +kernel
theorem dX12_closes_25 : decode cX12_closes 25 = .ok (.aload_n 0, 1) := by decide +kernel
theorem dX12_closes_26 : decode cX12_closes 26 = .ok (.invokevirtual 159, 3) := by decide +kernel
theorem dX12_closes_29 : decode cX12_closes 29 = .ok (.return_, 1) := by decide +kernel
theorem dX12_expression_0 : decode cX12_expression 0 = .ok (.aload_n 0, 1) := by decide +kernel
theorem dX12_expression_1 : decode cX12_expression 1 = .ok (.invokevirtual 155, 3) := by decide +kernel
theorem dX12_expression_4 : decode cX12_expression 4 = .ok (.ifCond .ne 4, 3) := by decide +kernel
theorem dX12_expression_7 : decode cX12_expression 7 = .ok (.return_, 1) := by decide +kernel
theorem dX12_expression_8 : decode cX12_expression 8 = .ok (.aload_n 0, 1) := by decide +kernel
theorem dX12_expression_9 : decode cX12_expression 9 = .ok (.iload_n 1, 1) := by decide +kernel
theorem dX12_expression_10 : decode cX12_expression 10 = .ok (.putfield 184, 3) := by decide +kernel
theorem dX12_expression_13 : decode cX12_expression 13 = .ok (.aload_n 0, 1) := by decide +kernel
theorem dX12_expression_14 : decode cX12_expression 14 = .ok (.iload_n 2, 1) := by decide +kernel
theorem dX12_expression_15 : decode cX12_expression 15 = .ok (.putfield 187, 3) := by decide +kernel
theorem dX12_expression_18 : decode cX12_expression 18 = .ok (.aload_n 0, 1) := by decide +kernel
theorem dX12_expression_19 : decode cX12_expression 19 = .ok (.iconst 0, 1) := by decide +kernel
theorem dX12_expression_20 : decode cX12_expression 20 = .ok (.putfield 168, 3) := by decide +kernel
theorem dX12_expression_23 : decode cX12_expression 23 = .ok (.aload_n 0, 1) := by decide +kernel
theorem dX12_expression_24 : decode cX12_expression 24 = .ok (.iconst 0, 1) := by decide +kernel
theorem dX12_expression_25 : decode cX12_expression 25 = .ok (.putfield 190, 3) := by decide +kernel
theorem dX12_expression_28 : decode cX12_expression 28 = .ok (.aload_n 0, 1) := by decide +kernel
theorem dX12_expression_29 : decode cX12_expression 29 = .ok (.invokevirtual 199, 3) := by decide +kernel
theorem dX12_expression_32 : decode cX12_expression 32 = .ok (.aload_n 0, 1) := by decide +kernel
theorem dX12_expression_33 : decode cX12_expression 33 = .ok (.iconst 1, 1) := by decide +kernel
theorem dX12_expression_34 : decode cX12_expression 34 = .ok (.invokevirtual 208, 3) := by decide +kernel
theorem dX12_expression_37 : decode cX12_expression 37 = .ok (.iconst 1, 1) := by decide +kernel
theorem dX12_expression_38 : decode cX12_expression 38 = .ok (.istore_n 3, 1) := by decide +kernel
theorem dX12_expression_39 : decode cX12_expression 39 = .ok (.iload_n 3, 1) := by decide +kernel
theorem dX12_expression_40 : decode cX12_expression 40 = .ok (.ifCond .eq 300, 3) := by decide +kernel
theorem dX12_expression_43 : decode cX12_expression 43 = .ok (.aload_n 0, 1) := by decide +kernel
theorem dX12_expression_44 : decode cX12_expression 44 = .ok (.invokevirtual 155, 3) := by decide +kernel
theorem dX12_expression_47 : decode cX12_expression 47 = .ok (.ifCond .eq 293, 3) := by decide +kernel
theorem dX12_expression_50 : decode cX12_expression 50 = .ok (.aload_n 0, 1) := by decide +kernel
theorem dX12_expression_51 : decode cX12_expression 51 = .ok (.invokevirtual 180, 3) := by decide +kernel
theorem dX12_expression_54 : decode cX12_expression 54 = .ok (.istore 4, 2) := by decide +kernel
theorem dX12_expression_56 : decode cX12_expression 56 = .ok (.iload 4, 2) := by decide +kernel
theorem dX12_expression_58 : decode cX12_expression 58 = .ok (.bipush 13, 2) := by decide +kernel
theorem dX12_expression_60 : decode cX12_expression 60 = .ok (.if_icmp .eq 10, 3) := by decide +kernel
theorem dX12_expression_63 : decode cX12_expression 63 = .ok (.iload 4, 2) := by decide +kernel
theorem dX12_expression_65 : decode cX12_expression 65 = .ok (.bipush 14, 2) := by decide +kernel
theorem dX12_expression_67 : decode cX12_expression 67 = .ok (.if_icmp .ne 57, 3) := by decide +kernel
theorem dX12_expression_70 : decode cX12_expression 70 = .ok (.aload_n 0, 1) := by decide +kernel
theorem dX12_expression_71 : decode cX12_expression 71 = .ok (.iload 4, 2) := by decide +kernel
theorem dX12_expression_73 : decode cX12_expression 73 = .ok (.bipush 13, 2) := by decide +kernel
theorem dX12_expression_75 : decode cX12_expression 75 = .ok (.if_icmp .ne 7, 3) := by decide +kernel
theorem dX12_expression_78 : decode cX12_expression 78 = .ok (.iconst 2, 1) := by decide +kernel
theorem dX12_expression_79 : decode cX12_expression 79 = .ok (.goto 4, 3) := by decide +kernel
theorem dX12_expression_82 : decode cX12_expression 82 = .ok (.iconst 1, 1) := by decide +kernel
theorem dX12_expression_83 : decode cX12_expression 83 = .ok (.invokevirtual 205, 3) := by decide +kernel
theorem dX12_expression_86 : decode cX12_expression 86 = .ok (.aload_n 0, 1) := by decide +kernel
theorem dX12_expression_87 : decode cX12_expression 87 = .ok (.iload 4, 2) := by decide +kernel
theorem dX12_expression_89 : decode cX12_expression 89 = .ok (.bipush 13, 2) := by decide +kernel
theorem dX12_expression_91 : decode cX12_expression 91 = .ok (.if_icmp .ne 7, 3) := by decide +kernel
theorem dX12_expression_94 : decode cX12_expression 94 = .ok (.iconst 4, 1) := by decide +kernel
theorem dX12_expression_95 : decode cX12_expression 95 = .ok (.goto 4, 3) := by decide +kernel
theorem dX12_expression_98 : decode cX12_expression 98 = .ok (.iconst 5, 1) := by decide +kernel
theorem dX12_expression_99 : decode cX12_expression 99 = .ok (.invokevirtual 196, 3) := by decide +kernel
theorem dX12_expression_102 : decode cX12_expression 102 = .ok (.aload_n 0, 1) := by decide +kernel
theorem dX12_expression_103 : decode cX12_expression 103 = .ok (.getfield 44, 3) := by decide +kernel
theorem dX12_expression_106 : decode cX12_expression 106 = .ok (.aload_n 0, 1) := by decide +kernel
theorem dX12_expression_107 : decode cX12_expression 107 = .ok (.getfield 190, 3) := by decide +kernel
theorem dX12_expression_110 : decode cX12_expression 110 = .ok (.iconst 0, 1) := by decide +kernel
theorem dX12_expression_111 : decode cX12_expression 111 = .ok (.bastore, 1) := by decide +kernel
theorem dX12_expression_112 : decode cX12_expression 112 = .ok (.aload_n 0, 1) := by decide +kernel
theorem dX12_expression_113 : decode cX12_expression 113 = .ok (.invokevirtual 159, 3) := by decide +kernel
theorem dX12_expression_116 : decode cX12_expression 116 = .ok (.aload_n 0, 1) := by decide +kernel
theorem dX12_expression_117 : decode cX12_expression 117 = .ok (.iconst 1, 1) := by decide +kernel
theorem dX12_expression_118 : decode cX12_expression 118 = .ok (.invokevirtual 208, 3) := by decide +kernel
theorem dX12_expression_121 : decode cX12_expression 121 = .ok (.goto 216, 3) := by decide +kernel
theorem dX12_expression_124 : decode cX12_expression 124 = .ok (.aload_n 0, 1) := by decide +kernel
theorem dX12_expression_125 : decode cX12_expression 125 = .ok (.bipush 60, 2) := by decide +kernel
theorem dX12_expression_127 : decode cX12_expression 127 = .ok (.invokevirtual 193, 3) := by decide +kernel
theorem dX12_expression_130 : decode cX12_expression 130 = .ok (.ifCond .ne 12, 3) := by decide +kernel
theorem dX12_expression_133 : decode cX12_expression 133 = .ok (.aload_n 0, 1) := by decide +kernel
theorem dX12_expression_134 : decode cX12_expression 134 = .ok (.bipush 61, 2) := by decide +kernel
theorem dX12_expression_136 : decode cX12_expression 136 = .ok (.invokevirtual 193, 3) := by decide +kernel
theorem dX12_expression_139 : decode cX12_expression 139 = .ok (.ifCond .eq 62, 3) := by decide +kernel
theorem dX12_expression_142 : decode cX12_expression 142 = .ok (.aload_n 0, 1) := by decide +kernel
theorem dX12_expression_143 : decode cX12_expression 143 = .ok (.getfield 44, 3) := by decide +kernel
theorem dX12_expression_146 : decode cX12_expression 146 = .ok (.aload_n 0, 1) := by decide +kernel
theorem dX12_expression_147 : decode cX12_expression 147 = .ok (.getfield 190, 3) := by decide +kernel
theorem dX12_expression_150 : decode cX12_expression 150 = .ok (.baload, 1) := by decide +kernel
theorem dX12_expression_151 : decode cX12_expression 151 = .ok (.ifCond .ne 50, 3) := by decide +kernel
theorem dX12_expression_154 : decode cX12_expression 154 = .ok (.aload_n 0, 1) := by decide +kernel
theorem dX12_expression_155 : decode cX12_expression 155 = .ok (.iconst 4, 1) := by decide +kernel
theorem dX12_expression_156 : decode cX12_expression 156 = .ok (.invokevirtual 205, 3) := by decide +kernel
theorem dX12_expression_159 : decode cX12_expression 159 = .ok (.aload_n 0, 1) := by decide +kernel
theorem dX12_expression_160 : decode cX12_expression 160 = .ok (.aload_n 0, 1) := by decide +kernel
theorem dX12_expression_161 : decode cX12_expression 161 = .ok (.bipush 60, 2) := by decide +kernel
theorem dX12_expression_163 : decode cX12_expression 163 = .ok (.invokevirtual 193, 3) := by decide +kernel
theorem dX12_expression_166 : decode cX12_expression 166 = .ok (.ifCond .eq 8, 3) := by decide +kernel
theorem dX12_expression_169 : decode cX12_expression 169 = .ok (.bipush 6, 2) := by decide +kernel
theorem dX12_expression_171 : decode cX12_expression 171 = .ok (.goto 5, 3) := by decide +kernel
theorem dX12_expression_174 : decode cX12_expression 174 = .ok (.bipush 7, 2) := by decide +kernel
theorem dX12_expression_176 : decode cX12_expression 176 = .ok (.invokevirtual 196, 3) := by decide +kernel
theorem dX12_expression_179 : decode cX12_expression 179 = .ok (.aload_n 0, 1) := by decide +kernel
theorem dX12_expression_180 : decode cX12_expression 180 = .ok (.getfield 44, 3) := by decide +kernel
theorem dX12_expression_183 : decode cX12_expression 183 = .ok (.aload_n 0, 1) := by decide +kernel
theorem dX12_expression_184 : decode cX12_expression 184 = .ok (.getfield 190, 3) := by decide +kernel
theorem dX12_expression_187 : decode cX12_expression 187 = .ok (.iconst 1, 1) := by decide +kernel
theorem dX12_expression_188 : decode cX12_expression 188 = .ok (.bastore, 1) := by decide +kernel
theorem dX12_expression_189 : decode cX12_expression 189 = .ok (.aload_n 0, 1) := by decide +kernel
theorem dX12_expression_190 : decode cX12_expression 190 = .ok (.invokevirtual 159, 3) := by decide +kernel
theorem dX12_expression_193 : decode cX12_expression 193 = .ok (.aload_n 0, 1) := by decide +kernel
theorem dX12_expression_194 : decode cX12_expression 194 = .ok (.iconst 0, 1) := by decide +kernel
theorem dX12_expression_195 : decode cX12_expression 195 = .ok (.invokevirtual 208, 3) := by decide +kernel
theorem dX12_expression_198 : decode cX12_expression 198 = .ok (.goto 139, 3) := by decide +kernel
theorem dX12_expression_201 : decode cX12_expression 201 = .ok (.aload_n 0, 1) := by decide +kernel
theorem dX12_expression_202 : decode cX12_expression 202 = .ok (.bipush 43, 2) := by decide +kernel
theorem dX12_expression_204 : decode cX12_expression 204 = .ok (.invokevirtual 193, 3) := by decide +kernel
theorem dX12_expression_207 : decode cX12_expression 207 = .ok (.ifCond .ne 12, 3) := by decide +kernel
theorem dX12_expression_210 : decode cX12_expression 210 = .ok (.aload_n 0, 1) := by decide +kernel
theorem dX12_expression_211 : decode cX12_expression 211 = .ok (.bipush 45, 2) := by decide +kernel
theorem dX12_expression_213 : decode cX12_expression 213 = .ok (.invokevirtual 193, 3) := by decide +kernel
theorem dX12_expression_216 : decode cX12_expression 216 = .ok (.ifCond .eq 40, 3) := by decide +kernel
theorem dX12_expression_219 : decode cX12_expression 219 = .ok (.aload_n 0, 1) := by decide +kernel
theorem dX12_expression_220 : decode cX12_expression 220 = .ok (.iconst 5, 1) := by decide +kernel
theorem dX12_expression_221 : decode cX12_expression 221 = .ok (.invokevirtual 205, 3) := by decide +kernel
theorem dX12_expression_224 : decode cX12_expression 224 = .ok (.aload_n 0, 1) := by decide +kernel
theorem dX12_expression_225 : decode cX12_expression 225 = .ok (.aload_n 0, 1) := by decide +kernel
theorem dX12_expression_226 : decode cX12_expression 226 = .ok (.bipush 43, 2) := by decide +kernel
theorem dX12_expression_228 : decode cX12_expression 228 = .ok (.invokevirtual 193, 3) := by decide +kernel
theorem dX12_expression_231 : decode cX12_expression 231 = .ok (.ifCond .eq 8, 3) := by decide +kernel
theorem dX12_expression_234 : decode cX12_expression 234 = .ok (.bipush 8, 2) := by decide +kernel
theorem dX12_expression_236 : decode cX12_expression 236 = .ok (.goto 5, 3) := by decide +kernel
theorem dX12_expression_239 : decode cX12_expression 239 = .ok (.bipush 9, 2) := by decide +kernel
theorem dX12_expression_241 : decode cX12_expression 241 = .ok (.invokevirtual 196, 3) := by decide +kernel
theorem dX12_expression_244 : decode cX12_expression 244 = .ok (.aload_n 0, 1) := by decide +kernel
theorem dX12_expression_245 : decode cX12_expression 245 = .ok (.invokevirtual 159, 3) := by decide +kernel
theorem dX12_expression_248 : decode cX12_expression 248 = .ok (.aload_n 0, 1) := by decide +kernel
theorem dX12_expression_249 : decode cX12_expression 249 = .ok (.iconst 0, 1) := by decide +kernel
theorem dX12_expression_250 : decode cX12_expression 250 = .ok (.invokevirtual 208, 3) := by decide +kernel
theorem dX12_expression_253 : decode cX12_expression 253 = .ok (.goto 84, 3) := by decide +kernel
theorem dX12_expression_256 : decode cX12_expression 256 = .ok (.aload_n 0, 1) := by decide +kernel
theorem dX12_expression_257 : decode cX12_expression 257 = .ok (.bipush 42, 2) := by decide +kernel
theorem dX12_expression_259 : decode cX12_expression 259 = .ok (.invokevirtual 193, 3) := by decide +kernel
theorem dX12_expression_262 : decode cX12_expression 262 = .ok (.ifCond .ne 12, 3) := by decide +kernel
theorem dX12_expression_265 : decode cX12_expression 265 = .ok (.aload_n 0, 1) := by decide +kernel
theorem dX12_expression_266 : decode cX12_expression 266 = .ok (.bipush 47, 2) := by decide +kernel
theorem dX12_expression_268 : decode cX12_expression 268 = .ok (.invokevirtual 193, 3) := by decide +kernel
theorem dX12_expression_271 : decode cX12_expression 271 = .ok (.ifCond .eq 41, 3) := by decide +kernel
theorem dX12_expression_274 : decode cX12_expression 274 = .ok (.aload_n 0, 1) := by decide +kernel
theorem dX12_expression_275 : decode cX12_expression 275 = .ok (.bipush 6, 2) := by decide +kernel
theorem dX12_expression_277 : decode cX12_expression 277 = .ok (.invokevirtual 205, 3) := by decide +kernel
theorem dX12_expression_280 : decode cX12_expression 280 = .ok (.aload_n 0, 1) := by decide +kernel
theorem dX12_expression_281 : decode cX12_expression 281 = .ok (.aload_n 0, 1) := by decide +kernel
theorem dX12_expression_282 : decode cX12_expression 282 = .ok (.bipush 42, 2) := by decide +kernel
theorem dX12_expression_284 : decode cX12_expression 284 = .ok (.invokevirtual 193, 3) := by decide +kernel
theorem dX12_expression_287 : decode cX12_expression 287 = .ok (.ifCond .eq 8, 3) := by decide +kernel
theorem dX12_expression_290 : decode cX12_expression 290 = .ok (.bipush 10, 2) := by decide +kernel
theorem dX12_expression_292 : decode cX12_expression 292 = .ok (.goto 5, 3) := by decide +kernel
theorem dX12_expression_295 : decode cX12_expression 295 = .ok (.bipush 11, 2) := by decide +kernel
theorem dX12_expression_297 : decode cX12_expression 297 = .ok (.invokevirtual 196, 3) := by decide +kernel
theorem dX12_expression_300 : decode cX12_expression 300 = .ok (.aload_n 0, 1) := by decide +kernel
theorem dX12_expression_301 : decode cX12_expression 301 = .ok (.invokevirtual 159, 3) := by decide +kernel
theorem dX12_expression_304 : decode cX12_expression 304 = .ok (.aload_n 0, 1) := by decide +kernel
theorem dX12_expression_305 : decode cX12_expression 305 = .ok (.iconst 0, 1) := by decide +kernel
theorem dX12_expression_306 : decode cX12_expression 306 = .ok (.invokevirtual 208, 3) := by decide +kernel
theorem dX12_expression_309 : decode cX12_expression 309 = .ok (.goto 28, 3) := by decide +kernel
theorem dX12_expression_312 : decode cX12_expression 312 = .ok (.aload_n 0, 1) := by decide +kernel
theorem dX12_expression_313 : decode cX12_expression 313 = .ok (.bipush 41, 2) := by decide +kernel
theorem dX12_expression_315 : decode cX12_expression 315 = .ok (.invokevirtual 193, 3) := by decide +kernel
theorem dX12_expression_318 : decode cX12_expression 318 = .ok (.ifCond .eq 17, 3) := by decide +kernel
theorem dX12_expression_321 : decode cX12_expression 321 = .ok (.aload_n 0, 1) := by decide +kernel
theorem dX12_expression_322 : decode cX12_expression 322 = .ok (.invokevirtual 212, 3) := by decide +kernel
theorem dX12_expression_325 : decode cX12_expression 325 = .ok (.ifCond .eq 10, 3) := by decide +kernel
theorem dX12_expression_328 : decode cX12_expression 328 = .ok (.aload_n 0, 1) := by decide +kernel
theorem dX12_expression_329 : decode cX12_expression 329 = .ok (.invokevirtual 215, 3) := by decide +kernel
theorem dX12_expression_332 : decode cX12_expression 332 = .ok (.goto 5, 3) := by decide +kernel
theorem dX12_expression_335 : decode cX12_expression 335 = .ok (.iconst 0, 1) := by decide +kernel
theorem dX12_expression_336 : decode cX12_expression 336 = .ok (.istore_n 3, 1) := by decide +kernel
theorem dX12_expression_337 : decode cX12_expression 337 = .ok (.goto (-298), 3) := by decide +kernel
theorem dX12_expression_340 : decode cX12_expression 340 = .ok (.aload_n 0, 1) := by decide +kernel
theorem dX12_expression_341 : decode cX12_expression 341 = .ok (.invokevirtual 155, 3) := by decide +kernel
theorem dX12_expression_344 : decode cX12_expression 344 = .ok (.ifCond .eq 16, 3) := by decide +kernel
theorem dX12_expression_347 : decode cX12_expression 347 = .ok (.aload_n 0, 1) := by decide +kernel
theorem dX12_expression_348 : decode cX12_expression 348 = .ok (.getfield 190, 3) := by decide +kernel
theorem dX12_expression_351 : decode cX12_expression 351 = .ok (.iconst 1, 1) := by decide +kernel
theorem dX12_expression_352 : decode cX12_expression 352 = .ok (.if_icmp .le 8, 3) := by decide +kernel
theorem dX12_expression_355 : decode cX12_expression 355 = .ok (.aload_n 0, 1) := by decide +kernel
theorem dX12_expression_356 : decode cX12_expression 356 = .ok (.iconst 1, 1) := by decide +kernel
theorem dX12_expression_357 : decode cX12_expression 357 = .ok (.invokevirtual 162, 3) := by decide +kernel
theorem dX12_expression_360 : decode cX12_expression 360 = .ok (.aload_n 0, 1) := by decide +kernel
theorem dX12_expression_361 : decode cX12_expression 361 = .ok (.iconst 0, 1) := by decide +kernel
theorem dX12_expression_362 : decode cX12_expression 362 = .ok (.invokevirtual 205, 3) := by decide +kernel
theorem dX12_expression_365 : decode cX12_expression 365 = .ok (.aload_n 0, 1) := by decide +kernel
theorem dX12_expression_366 : decode cX12_expression 366 = .ok (.iconst 0, 1) := by decide +kernel
theorem dX12_expression_367 : decode cX12_expression 367 = .ok (.invokevirtual 177, 3) := by decide +kernel
theorem dX12_expression_370 : decode cX12_expression 370 = .ok (.return_, 1) := by decide +kernel
theorem dX12_begins_0 : decode cX12_begins 0 = .ok (.iload_n 1, 1) := by decide +kernel
theorem dX12_begins_1 : decode cX12_begins 1 = .ok (.ifCond .eq 8, 3) := by decide +kernel
theorem dX12_begins_4 : decode cX12_begins 4 = .ok (.aload_n 0, 1) := by decide +kernel
theorem dX12_begins_5 : decode cX12_begins 5 = .ok (.iconst 2, 1) := by decide +kernel
theorem dX12_begins_6 : decode cX12_begins 6 = .ok (.invokevirtual 162, 3) := by decide +kernel
theorem dX12_begins_9 : decode cX12_begins 9 = .ok (.iload_n 2, 1) := by decide +kernel
theorem dX12_begins_10 : decode cX12_begins 10 = .ok (.ifCond .eq 8, 3) := by decide +kernel
theorem dX12_begins_13 : decode cX12_begins 13 = .ok (.aload_n 0, 1) := by decide +kernel
theorem dX12_begins_14 : decode cX12_begins 14 = .ok (.iconst 5, 1) := by decide +kernel
theorem dX12_begins_15 : decode cX12_begins 15 = .ok (.invokevirtual 162, 3) := by decide +kernel
theorem dX12_begins_18 : decode cX12_begins 18 = .ok (.aload_n 0, 1) := by decide +kernel
theorem dX12_begins_19 : decode cX12_begins 19 = .ok (.invokevirtual 155, 3) := by decide +kernel
theorem dX12_begins_22 : decode cX12_begins 22 = .ok (.ifCond .ne 5, 3) := by decide +kernel
theorem dX12_begins_25 : decode cX12_begins 25 = .ok (.iconst 0, 1) := by decide +kernel
theorem dX12_begins_26 : decode cX12_begins 26 = .ok (.ireturn, 1) := by decide +kernel
theorem dX12_begins_27 : decode cX12_begins 27 = .ok (.aload_n 0, 1) := by decide +kernel
theorem dX12_begins_28 : decode cX12_begins 28 = .ok (.invokevirtual 159, 3) := by decide +kernel
theorem dX12_begins_31 : decode cX12_begins 31 = .ok (.iconst 1, 1) := by decide +kernel
theorem dX12_begins_32 : decode cX12_begins 32 = .ok (.ireturn, 1) := by decide +kernel
theorem dX12_readsPerson_0 : decode cX12_readsPerson 0 = .ok (.aload_n 0, 1) := by decide +kernel
theorem dX12_readsPerson_1 : decode cX12_readsPerson 1 = .ok (.getfield 218, 3) := by decide +kernel
theorem dX12_readsPerson_4 : decode cX12_readsPerson 4 = .ok (.istore_n 1, 1) := by decide +kernel
theorem dX12_readsPerson_5 : decode cX12_readsPerson 5 = .ok (.aload_n 0, 1) := by decide +kernel
theorem dX12_readsPerson_6 : decode cX12_readsPerson 6 = .ok (.getfield 35, 3) := by decide +kernel
theorem dX12_readsPerson_9 : decode cX12_readsPerson 9 = .ok (.bipush 50, 2) := by decide +kernel
theorem dX12_readsPerson_11 : decode cX12_readsPerson 11 = .ok (.iload_n 1, 1) := by decide +kernel
theorem dX12_readsPerson_12 : decode cX12_readsPerson 12 = .ok (.iadd, 1) := by decide +kernel
theorem dX12_readsPerson_13 : decode cX12_readsPerson 13 = .ok (.aload_n 0, 1) := by decide +kernel
theorem dX12_readsPerson_14 : decode cX12_readsPerson 14 = .ok (.iconst 0, 1) := by decide +kernel
theorem dX12_readsPerson_15 : decode cX12_readsPerson 15 = .ok (.bipush 9, 2) := by decide +kernel
theorem dX12_readsPerson_17 : decode cX12_readsPerson 17 = .ok (.invokevirtual 221, 3) := by decide +kernel
theorem dX12_readsPerson_20 : decode cX12_readsPerson 20 = .ok (.iastore, 1) := by decide +kernel
theorem dX12_readsPerson_21 : decode cX12_readsPerson 21 = .ok (.aload_n 0, 1) := by decide +kernel
theorem dX12_readsPerson_22 : decode cX12_readsPerson 22 = .ok (.getfield 35, 3) := by decide +kernel
theorem dX12_readsPerson_25 : decode cX12_readsPerson 25 = .ok (.iconst 2, 1) := by decide +kernel
theorem dX12_readsPerson_26 : decode cX12_readsPerson 26 = .ok (.iload_n 1, 1) := by decide +kernel
theorem dX12_readsPerson_27 : decode cX12_readsPerson 27 = .ok (.iadd, 1) := by decide +kernel
theorem dX12_readsPerson_28 : decode cX12_readsPerson 28 = .ok (.iconst (-1), 1) := by decide +kernel
theorem dX12_readsPerson_29 : decode cX12_readsPerson 29 = .ok (.iastore, 1) := by decide +kernel
theorem dX12_readsPerson_30 : decode cX12_readsPerson 30 = .ok (.aload_n 0, 1) := by decide +kernel
theorem dX12_readsPerson_31 : decode cX12_readsPerson 31 = .ok (.invokevirtual 155, 3) := by decide +kernel
theorem dX12_readsPerson_34 : decode cX12_readsPerson 34 = .ok (.ifCond .eq 13, 3) := by decide +kernel
theorem dX12_readsPerson_37 : decode cX12_readsPerson 37 = .ok (.aload_n 0, 1) := by decide +kernel
theorem dX12_readsPerson_38 : decode cX12_readsPerson 38 = .ok (.dup, 1) := by decide +kernel
theorem dX12_readsPerson_39 : decode cX12_readsPerson 39 = .ok (.getfield 218, 3) := by decide +kernel
theorem dX12_readsPerson_42 : decode cX12_readsPerson 42 = .ok (.iconst 1, 1) := by decide +kernel
theorem dX12_readsPerson_43 : decode cX12_readsPerson 43 = .ok (.iadd, 1) := by decide +kernel
theorem dX12_readsPerson_44 : decode cX12_readsPerson 44 = .ok (.putfield 218, 3) := by decide +kernel
theorem dX12_readsPerson_47 : decode cX12_readsPerson 47 = .ok (.return_, 1) := by decide +kernel
theorem dX12_readsHouse_0 : decode cX12_readsHouse 0 = .ok (.iconst 0, 1) := by decide +kernel
theorem dX12_readsHouse_1 : decode cX12_readsHouse 1 = .ok (.istore_n 1, 1) := by decide +kernel
theorem dX12_readsHouse_2 : decode cX12_readsHouse 2 = .ok (.iconst 1, 1) := by decide +kernel
theorem dX12_readsHouse_3 : decode cX12_readsHouse 3 = .ok (.istore_n 2, 1) := by decide +kernel
theorem dX12_readsHouse_4 : decode cX12_readsHouse 4 = .ok (.iload_n 2, 1) := by decide +kernel
theorem dX12_readsHouse_5 : decode cX12_readsHouse 5 = .ok (.ifCond .eq 104, 3) := by decide +kernel
theorem dX12_readsHouse_8 : decode cX12_readsHouse 8 = .ok (.aload_n 0, 1) := by decide +kernel
theorem dX12_readsHouse_9 : decode cX12_readsHouse 9 = .ok (.invokevirtual 155, 3) := by decide +kernel
theorem dX12_readsHouse_12 : decode cX12_readsHouse 12 = .ok (.ifCond .eq 97, 3) := by decide +kernel
theorem dX12_readsHouse_15 : decode cX12_readsHouse 15 = .ok (.aload_n 0, 1) := by decide +kernel
theorem dX12_readsHouse_16 : decode cX12_readsHouse 16 = .ok (.aload_n 0, 1) := by decide +kernel
theorem dX12_readsHouse_17 : decode cX12_readsHouse 17 = .ok (.getfield 218, 3) := by decide +kernel
theorem dX12_readsHouse_20 : decode cX12_readsHouse 20 = .ok (.invokevirtual 225, 3) := by decide +kernel
theorem dX12_readsHouse_23 : decode cX12_readsHouse 23 = .ok (.ifCond .ne 4, 3) := by decide +kernel
theorem dX12_readsHouse_26 : decode cX12_readsHouse 26 = .ok (.return_, 1) := by decide +kernel
theorem dX12_readsHouse_27 : decode cX12_readsHouse 27 = .ok (.aload_n 0, 1) := by decide +kernel
theorem dX12_readsHouse_28 : decode cX12_readsHouse 28 = .ok (.getfield 35, 3) := by decide +kernel
theorem dX12_readsHouse_31 : decode cX12_readsHouse 31 = .ok (.iconst 2, 1) := by decide +kernel
theorem dX12_readsHouse_32 : decode cX12_readsHouse 32 = .ok (.aload_n 0, 1) := by decide +kernel
theorem dX12_readsHouse_33 : decode cX12_readsHouse 33 = .ok (.getfield 123, 3) := by decide +kernel
theorem dX12_readsHouse_36 : decode cX12_readsHouse 36 = .ok (.iadd, 1) := by decide +kernel
theorem dX12_readsHouse_37 : decode cX12_readsHouse 37 = .ok (.iaload, 1) := by decide +kernel
theorem dX12_readsHouse_38 : decode cX12_readsHouse 38 = .ok (.iconst (-1), 1) := by decide +kernel
theorem dX12_readsHouse_39 : decode cX12_readsHouse 39 = .ok (.if_icmp .eq 8, 3) := by decide +kernel
theorem dX12_readsHouse_42 : decode cX12_readsHouse 42 = .ok (.aload_n 0, 1) := by decide +kernel
theorem dX12_readsHouse_43 : decode cX12_readsHouse 43 = .ok (.iconst 4, 1) := by decide +kernel
theorem dX12_readsHouse_44 : decode cX12_readsHouse 44 = .ok (.invokevirtual 162, 3) := by decide +kernel
theorem dX12_readsHouse_47 : decode cX12_readsHouse 47 = .ok (.aload_n 0, 1) := by decide +kernel
theorem dX12_readsHouse_48 : decode cX12_readsHouse 48 = .ok (.invokevirtual 155, 3) := by decide +kernel
theorem dX12_readsHouse_51 : decode cX12_readsHouse 51 = .ok (.ifCond .ne 4, 3) := by decide +kernel
theorem dX12_readsHouse_54 : decode cX12_readsHouse 54 = .ok (.return_, 1) := by decide +kernel
theorem dX12_readsHouse_55 : decode cX12_readsHouse 55 = .ok (.aload_n 0, 1) := by decide +kernel
theorem dX12_readsHouse_56 : decode cX12_readsHouse 56 = .ok (.getfield 35, 3) := by decide +kernel
theorem dX12_readsHouse_59 : decode cX12_readsHouse 59 = .ok (.iconst 2, 1) := by decide +kernel
theorem dX12_readsHouse_60 : decode cX12_readsHouse 60 = .ok (.aload_n 0, 1) := by decide +kernel
theorem dX12_readsHouse_61 : decode cX12_readsHouse 61 = .ok (.getfield 123, 3) := by decide +kernel
theorem dX12_readsHouse_64 : decode cX12_readsHouse 64 = .ok (.iadd, 1) := by decide +kernel
theorem dX12_readsHouse_65 : decode cX12_readsHouse 65 = .ok (.aload_n 0, 1) := by decide +kernel
theorem dX12_readsHouse_66 : decode cX12_readsHouse 66 = .ok (.getfield 35, 3) := by decide +kernel
theorem dX12_readsHouse_69 : decode cX12_readsHouse 69 = .ok (.iconst 1, 1) := by decide +kernel
theorem dX12_readsHouse_70 : decode cX12_readsHouse 70 = .ok (.iaload, 1) := by decide +kernel
theorem dX12_readsHouse_71 : decode cX12_readsHouse 71 = .ok (.iastore, 1) := by decide +kernel
theorem dX12_readsHouse_72 : decode cX12_readsHouse 72 = .ok (.aload_n 0, 1) := by decide +kernel
theorem dX12_readsHouse_73 : decode cX12_readsHouse 73 = .ok (.getfield 35, 3) := by decide +kernel
theorem dX12_readsHouse_76 : decode cX12_readsHouse 76 = .ok (.bipush 14, 2) := by decide +kernel
theorem dX12_readsHouse_78 : decode cX12_readsHouse 78 = .ok (.aload_n 0, 1) := by decide +kernel
theorem dX12_readsHouse_79 : decode cX12_readsHouse 79 = .ok (.getfield 123, 3) := by decide +kernel
theorem dX12_readsHouse_82 : decode cX12_readsHouse 82 = .ok (.iadd, 1) := by decide +kernel
theorem dX12_readsHouse_83 : decode cX12_readsHouse 83 = .ok (.iload_n 1, 1) := by decide +kernel
theorem dX12_readsHouse_84 : decode cX12_readsHouse 84 = .ok (.iastore, 1) := by decide +kernel
theorem dX12_readsHouse_85 : decode cX12_readsHouse 85 = .ok (.iinc 1 1, 3) := by decide +kernel
theorem dX12_readsHouse_88 : decode cX12_readsHouse 88 = .ok (.aload_n 0, 1) := by decide +kernel
theorem dX12_readsHouse_89 : decode cX12_readsHouse 89 = .ok (.invokevirtual 159, 3) := by decide +kernel
theorem dX12_readsHouse_92 : decode cX12_readsHouse 92 = .ok (.aload_n 0, 1) := by decide +kernel
theorem dX12_readsHouse_93 : decode cX12_readsHouse 93 = .ok (.getfield 129, 3) := by decide +kernel
theorem dX12_readsHouse_96 : decode cX12_readsHouse 96 = .ok (.iconst 2, 1) := by decide +kernel
theorem dX12_readsHouse_97 : decode cX12_readsHouse 97 = .ok (.if_icmp .ne 7, 3) := by decide +kernel
theorem dX12_readsHouse_100 : decode cX12_readsHouse 100 = .ok (.iconst 1, 1) := by decide +kernel
theorem dX12_readsHouse_101 : decode cX12_readsHouse 101 = .ok (.goto 4, 3) := by decide +kernel
theorem dX12_readsHouse_104 : decode cX12_readsHouse 104 = .ok (.iconst 0, 1) := by decide +kernel
theorem dX12_readsHouse_105 : decode cX12_readsHouse 105 = .ok (.istore_n 2, 1) := by decide +kernel
theorem dX12_readsHouse_106 : decode cX12_readsHouse 106 = .ok (.goto (-102), 3) := by decide +kernel
theorem dX12_readsHouse_109 : decode cX12_readsHouse 109 = .ok (.aload_n 0, 1) := by decide +kernel
theorem dX12_readsHouse_110 : decode cX12_readsHouse 110 = .ok (.getfield 35, 3) := by decide +kernel
theorem dX12_readsHouse_113 : decode cX12_readsHouse 113 = .ok (.iconst 1, 1) := by decide +kernel
theorem dX12_readsHouse_114 : decode cX12_readsHouse 114 = .ok (.dup2, 1) := by decide +kernel
theorem dX12_readsHouse_115 : decode cX12_readsHouse 115 = .ok (.iaload, 1) := by decide +kernel
theorem dX12_readsHouse_116 : decode cX12_readsHouse 116 = .ok (.iconst 1, 1) := by decide +kernel
theorem dX12_readsHouse_117 : decode cX12_readsHouse 117 = .ok (.iadd, 1) := by decide +kernel
theorem dX12_readsHouse_118 : decode cX12_readsHouse 118 = .ok (.iastore, 1) := by decide +kernel
theorem dX12_readsHouse_119 : decode cX12_readsHouse 119 = .ok (.return_, 1) := by decide +kernel
theorem dX12_readsFriends_0 : decode cX12_readsFriends 0 = .ok (.aload_n 0, 1) := by decide +kernel
theorem dX12_readsFriends_1 : decode cX12_readsFriends 1 = .ok (.aload_n 0, 1) := by decide +kernel
theorem dX12_readsFriends_2 : decode cX12_readsFriends 2 = .ok (.getfield 218, 3) := by decide +kernel
theorem dX12_readsFriends_5 : decode cX12_readsFriends 5 = .ok (.invokevirtual 225, 3) := by decide +kernel
theorem dX12_readsFriends_8 : decode cX12_readsFriends 8 = .ok (.ifCond .ne 4, 3) := by decide +kernel
theorem dX12_readsFriends_11 : decode cX12_readsFriends 11 = .ok (.return_, 1) := by decide +kernel
theorem dX12_readsFriends_12 : decode cX12_readsFriends 12 = .ok (.aload_n 0, 1) := by decide +kernel
theorem dX12_readsFriends_13 : decode cX12_readsFriends 13 = .ok (.getfield 123, 3) := by decide +kernel
theorem dX12_readsFriends_16 : decode cX12_readsFriends 16 = .ok (.istore_n 1, 1) := by decide +kernel
theorem dX12_readsFriends_17 : decode cX12_readsFriends 17 = .ok (.aload_n 0, 1) := by decide +kernel
theorem dX12_readsFriends_18 : decode cX12_readsFriends 18 = .ok (.invokevirtual 159, 3) := by decide +kernel
theorem dX12_readsFriends_21 : decode cX12_readsFriends 21 = .ok (.aload_n 0, 1) := by decide +kernel
theorem dX12_readsFriends_22 : decode cX12_readsFriends 22 = .ok (.aload_n 0, 1) := by decide +kernel
theorem dX12_readsFriends_23 : decode cX12_readsFriends 23 = .ok (.getfield 218, 3) := by decide +kernel
theorem dX12_readsFriends_26 : decode cX12_readsFriends 26 = .ok (.invokevirtual 225, 3) := by decide +kernel
theorem dX12_readsFriends_29 : decode cX12_readsFriends 29 = .ok (.ifCond .ne 4, 3) := by decide +kernel
theorem dX12_readsFriends_32 : decode cX12_readsFriends 32 = .ok (.return_, 1) := by decide +kernel
theorem dX12_readsFriends_33 : decode cX12_readsFriends 33 = .ok (.aload_n 0, 1) := by decide +kernel
theorem dX12_readsFriends_34 : decode cX12_readsFriends 34 = .ok (.getfield 123, 3) := by decide +kernel
theorem dX12_readsFriends_37 : decode cX12_readsFriends 37 = .ok (.istore_n 2, 1) := by decide +kernel
theorem dX12_readsFriends_38 : decode cX12_readsFriends 38 = .ok (.iload_n 1, 1) := by decide +kernel
theorem dX12_readsFriends_39 : decode cX12_readsFriends 39 = .ok (.iload_n 2, 1) := by decide +kernel
theorem dX12_readsFriends_40 : decode cX12_readsFriends 40 = .ok (.if_icmp .ne 8, 3) := by decide +kernel
theorem dX12_readsFriends_43 : decode cX12_readsFriends 43 = .ok (.aload_n 0, 1) := by decide +kernel
theorem dX12_readsFriends_44 : decode cX12_readsFriends 44 = .ok (.iconst 4, 1) := by decide +kernel
theorem dX12_readsFriends_45 : decode cX12_readsFriends 45 = .ok (.invokevirtual 162, 3) := by decide +kernel
theorem dX12_readsFriends_48 : decode cX12_readsFriends 48 = .ok (.iconst 0, 1) := by decide +kernel
theorem dX12_readsFriends_49 : decode cX12_readsFriends 49 = .ok (.istore_n 3, 1) := by decide +kernel
theorem dX12_readsFriends_50 : decode cX12_readsFriends 50 = .ok (.iload_n 3, 1) := by decide +kernel
theorem dX12_readsFriends_51 : decode cX12_readsFriends 51 = .ok (.aload_n 0, 1) := by decide +kernel
theorem dX12_readsFriends_52 : decode cX12_readsFriends 52 = .ok (.getfield 228, 3) := by decide +kernel
theorem dX12_readsFriends_55 : decode cX12_readsFriends 55 = .ok (.if_icmp .ge 66, 3) := by decide +kernel
theorem dX12_readsFriends_58 : decode cX12_readsFriends 58 = .ok (.aload_n 0, 1) := by decide +kernel
theorem dX12_readsFriends_59 : decode cX12_readsFriends 59 = .ok (.getfield 32, 3) := by decide +kernel
theorem dX12_readsFriends_62 : decode cX12_readsFriends 62 = .ok (.iconst 2, 1) := by decide +kernel
theorem dX12_readsFriends_63 : decode cX12_readsFriends 63 = .ok (.iload_n 3, 1) := by decide +kernel
theorem dX12_readsFriends_64 : decode cX12_readsFriends 64 = .ok (.imul, 1) := by decide +kernel
theorem dX12_readsFriends_65 : decode cX12_readsFriends 65 = .ok (.iaload, 1) := by decide +kernel
theorem dX12_readsFriends_66 : decode cX12_readsFriends 66 = .ok (.iload_n 1, 1) := by decide +kernel
theorem dX12_readsFriends_67 : decode cX12_readsFriends 67 = .ok (.if_icmp .ne 17, 3) := by decide +kernel
theorem dX12_readsFriends_70 : decode cX12_readsFriends 70 = .ok (.aload_n 0, 1) := by decide +kernel
theorem dX12_readsFriends_71 : decode cX12_readsFriends 71 = .ok (.getfield 32, 3) := by decide +kernel
theorem dX12_readsFriends_74 : decode cX12_readsFriends 74 = .ok (.iconst 2, 1) := by decide +kernel
theorem dX12_readsFriends_75 : decode cX12_readsFriends 75 = .ok (.iload_n 3, 1) := by decide +kernel
theorem dX12_readsFriends_76 : decode cX12_readsFriends 76 = .ok (.imul, 1) := by decide +kernel
theorem dX12_readsFriends_77 : decode cX12_readsFriends 77 = .ok (.iconst 1, 1) := by decide +kernel
theorem dX12_readsFriends_78 : decode cX12_readsFriends 78 = .ok (.iadd, 1) := by decide +kernel
theorem dX12_readsFriends_79 : decode cX12_readsFriends 79 = .ok (.iaload, 1) := by decide +kernel
theorem dX12_readsFriends_80 : decode cX12_readsFriends 80 = .ok (.iload_n 2, 1) := by decide +kernel
theorem dX12_readsFriends_81 : decode cX12_readsFriends 81 = .ok (.if_icmp .eq 29, 3) := by decide +kernel
theorem dX12_readsFriends_84 : decode cX12_readsFriends 84 = .ok (.aload_n 0, 1) := by decide +kernel
theorem dX12_readsFriends_85 : decode cX12_readsFriends 85 = .ok (.getfield 32, 3) := by decide +kernel
theorem dX12_readsFriends_88 : decode cX12_readsFriends 88 = .ok (.iconst 2, 1) := by decide +kernel
theorem dX12_readsFriends_89 : decode cX12_readsFriends 89 = .ok (.iload_n 3, 1) := by decide +kernel
theorem dX12_readsFriends_90 : decode cX12_readsFriends 90 = .ok (.imul, 1) := by decide +kernel
theorem dX12_readsFriends_91 : decode cX12_readsFriends 91 = .ok (.iaload, 1) := by decide +kernel
theorem dX12_readsFriends_92 : decode cX12_readsFriends 92 = .ok (.iload_n 2, 1) := by decide +kernel
theorem dX12_readsFriends_93 : decode cX12_readsFriends 93 = .ok (.if_icmp .ne 22, 3) := by decide +kernel
theorem dX12_readsFriends_96 : decode cX12_readsFriends 96 = .ok (.aload_n 0, 1) := by decide +kernel
theorem dX12_readsFriends_97 : decode cX12_readsFriends 97 = .ok (.getfield 32, 3) := by decide +kernel
theorem dX12_readsFriends_100 : decode cX12_readsFriends 100 = .ok (.iconst 2, 1) := by decide +kernel
theorem dX12_readsFriends_101 : decode cX12_readsFriends 101 = .ok (.iload_n 3, 1) := by decide +kernel
theorem dX12_readsFriends_102 : decode cX12_readsFriends 102 = .ok (.imul, 1) := by decide +kernel
theorem dX12_readsFriends_103 : decode cX12_readsFriends 103 = .ok (.iconst 1, 1) := by decide +kernel
theorem dX12_readsFriends_104 : decode cX12_readsFriends 104 = .ok (.iadd, 1) := by decide +kernel
theorem dX12_readsFriends_105 : decode cX12_readsFriends 105 = .ok (.iaload, 1) := by decide +kernel
theorem dX12_readsFriends_106 : decode cX12_readsFriends 106 = .ok (.iload_n 1, 1) := by decide +kernel
theorem dX12_readsFriends_107 : decode cX12_readsFriends 107 = .ok (.if_icmp .ne 8, 3) := by decide +kernel
theorem dX12_readsFriends_110 : decode cX12_readsFriends 110 = .ok (.aload_n 0, 1) := by decide +kernel
theorem dX12_readsFriends_111 : decode cX12_readsFriends 111 = .ok (.iconst 4, 1) := by decide +kernel
theorem dX12_readsFriends_112 : decode cX12_readsFriends 112 = .ok (.invokevirtual 162, 3) := by decide +kernel
theorem dX12_readsFriends_115 : decode cX12_readsFriends 115 = .ok (.iinc 3 1, 3) := by decide +kernel
theorem dX12_readsFriends_118 : decode cX12_readsFriends 118 = .ok (.goto (-68), 3) := by decide +kernel
theorem dX12_readsFriends_121 : decode cX12_readsFriends 121 = .ok (.aload_n 0, 1) := by decide +kernel
theorem dX12_readsFriends_122 : decode cX12_readsFriends 122 = .ok (.invokevirtual 155, 3) := by decide +kernel
theorem dX12_readsFriends_125 : decode cX12_readsFriends 125 = .ok (.ifCond .ne 4, 3) := by decide +kernel
theorem dX12_readsFriends_128 : decode cX12_readsFriends 128 = .ok (.return_, 1) := by decide +kernel
theorem dX12_readsFriends_129 : decode cX12_readsFriends 129 = .ok (.aload_n 0, 1) := by decide +kernel
theorem dX12_readsFriends_130 : decode cX12_readsFriends 130 = .ok (.getfield 32, 3) := by decide +kernel
theorem dX12_readsFriends_133 : decode cX12_readsFriends 133 = .ok (.iconst 2, 1) := by decide +kernel
theorem dX12_readsFriends_134 : decode cX12_readsFriends 134 = .ok (.aload_n 0, 1) := by decide +kernel
theorem dX12_readsFriends_135 : decode cX12_readsFriends 135 = .ok (.getfield 228, 3) := by decide +kernel
theorem dX12_readsFriends_138 : decode cX12_readsFriends 138 = .ok (.imul, 1) := by decide +kernel
theorem dX12_readsFriends_139 : decode cX12_readsFriends 139 = .ok (.iload_n 1, 1) := by decide +kernel
theorem dX12_readsFriends_140 : decode cX12_readsFriends 140 = .ok (.iastore, 1) := by decide +kernel
theorem dX12_readsFriends_141 : decode cX12_readsFriends 141 = .ok (.aload_n 0, 1) := by decide +kernel
theorem dX12_readsFriends_142 : decode cX12_readsFriends 142 = .ok (.getfield 32, 3) := by decide +kernel
theorem dX12_readsFriends_145 : decode cX12_readsFriends 145 = .ok (.iconst 2, 1) := by decide +kernel
theorem dX12_readsFriends_146 : decode cX12_readsFriends 146 = .ok (.aload_n 0, 1) := by decide +kernel
theorem dX12_readsFriends_147 : decode cX12_readsFriends 147 = .ok (.getfield 228, 3) := by decide +kernel
theorem dX12_readsFriends_150 : decode cX12_readsFriends 150 = .ok (.imul, 1) := by decide +kernel
theorem dX12_readsFriends_151 : decode cX12_readsFriends 151 = .ok (.iconst 1, 1) := by decide +kernel
theorem dX12_readsFriends_152 : decode cX12_readsFriends 152 = .ok (.iadd, 1) := by decide +kernel
theorem dX12_readsFriends_153 : decode cX12_readsFriends 153 = .ok (.iload_n 2, 1) := by decide +kernel
theorem dX12_readsFriends_154 : decode cX12_readsFriends 154 = .ok (.iastore, 1) := by decide +kernel
theorem dX12_readsFriends_155 : decode cX12_readsFriends 155 = .ok (.aload_n 0, 1) := by decide +kernel
theorem dX12_readsFriends_156 : decode cX12_readsFriends 156 = .ok (.dup, 1) := by decide +kernel
theorem dX12_readsFriends_157 : decode cX12_readsFriends 157 = .ok (.getfield 228, 3) := by decide +kernel
theorem dX12_readsFriends_160 : decode cX12_readsFriends 160 = .ok (.iconst 1, 1) := by decide +kernel
theorem dX12_readsFriends_161 : decode cX12_readsFriends 161 = .ok (.iadd, 1) := by decide +kernel
theorem dX12_readsFriends_162 : decode cX12_readsFriends 162 = .ok (.putfield 228, 3) := by decide +kernel
theorem dX12_readsFriends_165 : decode cX12_readsFriends 165 = .ok (.aload_n 0, 1) := by decide +kernel
theorem dX12_readsFriends_166 : decode cX12_readsFriends 166 = .ok (.invokevirtual 159, 3) := by decide +kernel
theorem dX12_readsFriends_169 : decode cX12_readsFriends 169 = .ok (.return_, 1) := by decide +kernel
theorem dX12_line_0 : decode cX12_line 0 = .ok (.aload_n 0, 1) := by decide +kernel
theorem dX12_line_1 : decode cX12_line 1 = .ok (.invokevirtual 180, 3) := by decide +kernel
theorem dX12_line_4 : decode cX12_line 4 = .ok (.istore_n 1, 1) := by decide +kernel
theorem dX12_line_5 : decode cX12_line 5 = .ok (.iload_n 1, 1) := by decide +kernel
theorem dX12_line_6 : decode cX12_line 6 = .ok (.bipush 9, 2) := by decide +kernel
theorem dX12_line_8 : decode cX12_line 8 = .ok (.if_icmp .ne 32, 3) := by decide +kernel
theorem dX12_line_11 : decode cX12_line 11 = .ok (.aload_n 0, 1) := by decide +kernel
theorem dX12_line_12 : decode cX12_line 12 = .ok (.aload_n 0, 1) := by decide +kernel
theorem dX12_line_13 : decode cX12_line 13 = .ok (.getfield 218, 3) := by decide +kernel
theorem dX12_line_16 : decode cX12_line 16 = .ok (.bipush 12, 2) := by decide +kernel
theorem dX12_line_18 : decode cX12_line 18 = .ok (.if_icmp .ne 7, 3) := by decide +kernel
theorem dX12_line_21 : decode cX12_line 21 = .ok (.iconst 1, 1) := by decide +kernel
theorem dX12_line_22 : decode cX12_line 22 = .ok (.goto 4, 3) := by decide +kernel
theorem dX12_line_25 : decode cX12_line 25 = .ok (.iconst 0, 1) := by decide +kernel
theorem dX12_line_26 : decode cX12_line 26 = .ok (.iconst 0, 1) := by decide +kernel
theorem dX12_line_27 : decode cX12_line 27 = .ok (.invokevirtual 231, 3) := by decide +kernel
theorem dX12_line_30 : decode cX12_line 30 = .ok (.ifCond .eq 161, 3) := by decide +kernel
theorem dX12_line_33 : decode cX12_line 33 = .ok (.aload_n 0, 1) := by decide +kernel
theorem dX12_line_34 : decode cX12_line 34 = .ok (.invokevirtual 235, 3) := by decide +kernel
theorem dX12_line_37 : decode cX12_line 37 = .ok (.goto 154, 3) := by decide +kernel
theorem dX12_line_40 : decode cX12_line 40 = .ok (.iload_n 1, 1) := by decide +kernel
theorem dX12_line_41 : decode cX12_line 41 = .ok (.bipush 6, 2) := by decide +kernel
theorem dX12_line_43 : decode cX12_line 43 = .ok (.if_icmp .ne 19, 3) := by decide +kernel
theorem dX12_line_46 : decode cX12_line 46 = .ok (.aload_n 0, 1) := by decide +kernel
theorem dX12_line_47 : decode cX12_line 47 = .ok (.iconst 0, 1) := by decide +kernel
theorem dX12_line_48 : decode cX12_line 48 = .ok (.iconst 0, 1) := by decide +kernel
theorem dX12_line_49 : decode cX12_line 49 = .ok (.invokevirtual 231, 3) := by decide +kernel
theorem dX12_line_52 : decode cX12_line 52 = .ok (.ifCond .eq 139, 3) := by decide +kernel
theorem dX12_line_55 : decode cX12_line 55 = .ok (.aload_n 0, 1) := by decide +kernel
theorem dX12_line_56 : decode cX12_line 56 = .ok (.invokevirtual 238, 3) := by decide +kernel
theorem dX12_line_59 : decode cX12_line 59 = .ok (.goto 132, 3) := by decide +kernel
theorem dX12_line_62 : decode cX12_line 62 = .ok (.iload_n 1, 1) := by decide +kernel
theorem dX12_line_63 : decode cX12_line 63 = .ok (.bipush 10, 2) := by decide +kernel
theorem dX12_line_65 : decode cX12_line 65 = .ok (.if_icmp .ne 32, 3) := by decide +kernel
theorem dX12_line_68 : decode cX12_line 68 = .ok (.aload_n 0, 1) := by decide +kernel
theorem dX12_line_69 : decode cX12_line 69 = .ok (.aload_n 0, 1) := by decide +kernel
theorem dX12_line_70 : decode cX12_line 70 = .ok (.getfield 228, 3) := by decide +kernel
theorem dX12_line_73 : decode cX12_line 73 = .ok (.bipush 12, 2) := by decide +kernel
theorem dX12_line_75 : decode cX12_line 75 = .ok (.if_icmp .ne 7, 3) := by decide +kernel
theorem dX12_line_78 : decode cX12_line 78 = .ok (.iconst 1, 1) := by decide +kernel
theorem dX12_line_79 : decode cX12_line 79 = .ok (.goto 4, 3) := by decide +kernel
theorem dX12_line_82 : decode cX12_line 82 = .ok (.iconst 0, 1) := by decide +kernel
theorem dX12_line_83 : decode cX12_line 83 = .ok (.iconst 0, 1) := by decide +kernel
theorem dX12_line_84 : decode cX12_line 84 = .ok (.invokevirtual 231, 3) := by decide +kernel
theorem dX12_line_87 : decode cX12_line 87 = .ok (.ifCond .eq 104, 3) := by decide +kernel
theorem dX12_line_90 : decode cX12_line 90 = .ok (.aload_n 0, 1) := by decide +kernel
theorem dX12_line_91 : decode cX12_line 91 = .ok (.invokevirtual 241, 3) := by decide +kernel
theorem dX12_line_94 : decode cX12_line 94 = .ok (.goto 97, 3) := by decide +kernel
theorem dX12_line_97 : decode cX12_line 97 = .ok (.iload_n 1, 1) := by decide +kernel
theorem dX12_line_98 : decode cX12_line 98 = .ok (.bipush 11, 2) := by decide +kernel
theorem dX12_line_100 : decode cX12_line 100 = .ok (.if_icmp .ne 41, 3) := by decide +kernel
theorem dX12_line_103 : decode cX12_line 103 = .ok (.aload_n 0, 1) := by decide +kernel
theorem dX12_line_104 : decode cX12_line 104 = .ok (.iconst 0, 1) := by decide +kernel
theorem dX12_line_105 : decode cX12_line 105 = .ok (.aload_n 0, 1) := by decide +kernel
theorem dX12_line_106 : decode cX12_line 106 = .ok (.getfield 244, 3) := by decide +kernel
theorem dX12_line_109 : decode cX12_line 109 = .ok (.iconst (-1), 1) := by decide +kernel
theorem dX12_line_110 : decode cX12_line 110 = .ok (.if_icmp .eq 7, 3) := by decide +kernel
theorem dX12_line_113 : decode cX12_line 113 = .ok (.iconst 1, 1) := by decide +kernel
theorem dX12_line_114 : decode cX12_line 114 = .ok (.goto 4, 3) := by decide +kernel
theorem dX12_line_117 : decode cX12_line 117 = .ok (.iconst 0, 1) := by decide +kernel
theorem dX12_line_118 : decode cX12_line 118 = .ok (.invokevirtual 231, 3) := by decide +kernel
theorem dX12_line_121 : decode cX12_line 121 = .ok (.ifCond .eq 70, 3) := by decide +kernel
theorem dX12_line_124 : decode cX12_line 124 = .ok (.aload_n 0, 1) := by decide +kernel
theorem dX12_line_125 : decode cX12_line 125 = .ok (.aload_n 0, 1) := by decide +kernel
theorem dX12_line_126 : decode cX12_line 126 = .ok (.getfield 165, 3) := by decide +kernel
theorem dX12_line_129 : decode cX12_line 129 = .ok (.putfield 244, 3) := by decide +kernel
theorem dX12_line_132 : decode cX12_line 132 = .ok (.aload_n 0, 1) := by decide +kernel
theorem dX12_line_133 : decode cX12_line 133 = .ok (.iconst 0, 1) := by decide +kernel
theorem dX12_line_134 : decode cX12_line 134 = .ok (.iconst 5, 1) := by decide +kernel
theorem dX12_line_135 : decode cX12_line 135 = .ok (.invokevirtual 247, 3) := by decide +kernel
theorem dX12_line_138 : decode cX12_line 138 = .ok (.goto 53, 3) := by decide +kernel
theorem dX12_line_141 : decode cX12_line 141 = .ok (.iload_n 1, 1) := by decide +kernel
theorem dX12_line_142 : decode cX12_line 142 = .ok (.bipush 12, 2) := by decide +kernel
theorem dX12_line_144 : decode cX12_line 144 = .ok (.if_icmp .ne 42, 3) := by decide +kernel
theorem dX12_line_147 : decode cX12_line 147 = .ok (.aload_n 0, 1) := by decide +kernel
theorem dX12_line_148 : decode cX12_line 148 = .ok (.iconst 0, 1) := by decide +kernel
theorem dX12_line_149 : decode cX12_line 149 = .ok (.aload_n 0, 1) := by decide +kernel
theorem dX12_line_150 : decode cX12_line 150 = .ok (.getfield 251, 3) := by decide +kernel
theorem dX12_line_153 : decode cX12_line 153 = .ok (.iconst (-1), 1) := by decide +kernel
theorem dX12_line_154 : decode cX12_line 154 = .ok (.if_icmp .eq 7, 3) := by decide +kernel
theorem dX12_line_157 : decode cX12_line 157 = .ok (.iconst 1, 1) := by decide +kernel
theorem dX12_line_158 : decode cX12_line 158 = .ok (.goto 4, 3) := by decide +kernel
theorem dX12_line_161 : decode cX12_line 161 = .ok (.iconst 0, 1) := by decide +kernel
theorem dX12_line_162 : decode cX12_line 162 = .ok (.invokevirtual 231, 3) := by decide +kernel
theorem dX12_line_165 : decode cX12_line 165 = .ok (.ifCond .eq 26, 3) := by decide +kernel
theorem dX12_line_168 : decode cX12_line 168 = .ok (.aload_n 0, 1) := by decide +kernel
theorem dX12_line_169 : decode cX12_line 169 = .ok (.aload_n 0, 1) := by decide +kernel
theorem dX12_line_170 : decode cX12_line 170 = .ok (.getfield 165, 3) := by decide +kernel
theorem dX12_line_173 : decode cX12_line 173 = .ok (.putfield 251, 3) := by decide +kernel
theorem dX12_line_176 : decode cX12_line 176 = .ok (.aload_n 0, 1) := by decide +kernel
theorem dX12_line_177 : decode cX12_line 177 = .ok (.iconst 4, 1) := by decide +kernel
theorem dX12_line_178 : decode cX12_line 178 = .ok (.bipush 8, 2) := by decide +kernel
theorem dX12_line_180 : decode cX12_line 180 = .ok (.invokevirtual 247, 3) := by decide +kernel
theorem dX12_line_183 : decode cX12_line 183 = .ok (.goto 8, 3) := by decide +kernel
theorem dX12_line_186 : decode cX12_line 186 = .ok (.aload_n 0, 1) := by decide +kernel
theorem dX12_line_187 : decode cX12_line 187 = .ok (.iconst 1, 1) := by decide +kernel
theorem dX12_line_188 : decode cX12_line 188 = .ok (.invokevirtual 162, 3) := by decide +kernel
theorem dX12_line_191 : decode cX12_line 191 = .ok (.aload_n 0, 1) := by decide +kernel
theorem dX12_line_192 : decode cX12_line 192 = .ok (.aload_n 0, 1) := by decide +kernel
theorem dX12_line_193 : decode cX12_line 193 = .ok (.bipush 59, 2) := by decide +kernel
theorem dX12_line_195 : decode cX12_line 195 = .ok (.invokevirtual 193, 3) := by decide +kernel
theorem dX12_line_198 : decode cX12_line 198 = .ok (.invokevirtual 254, 3) := by decide +kernel
theorem dX12_line_201 : decode cX12_line 201 = .ok (.return_, 1) := by decide +kernel
theorem dX12_village_0 : decode cX12_village 0 = .ok (.aload_n 0, 1) := by decide +kernel
theorem dX12_village_1 : decode cX12_village 1 = .ok (.iconst 0, 1) := by decide +kernel
theorem dX12_village_2 : decode cX12_village 2 = .ok (.putfield 96, 3) := by decide +kernel
theorem dX12_village_5 : decode cX12_village 5 = .ok (.aload_n 0, 1) := by decide +kernel
theorem dX12_village_6 : decode cX12_village 6 = .ok (.iload_n 1, 1) := by decide +kernel
theorem dX12_village_7 : decode cX12_village 7 = .ok (.ifCond .lt 15, 3) := by decide +kernel
theorem dX12_village_10 : decode cX12_village 10 = .ok (.iload_n 1, 1) := by decide +kernel
theorem dX12_village_11 : decode cX12_village 11 = .ok (.aload_n 0, 1) := by decide +kernel
theorem dX12_village_12 : decode cX12_village 12 = .ok (.getfield 99, 3) := by decide +kernel
theorem dX12_village_15 : decode cX12_village 15 = .ok (.if_icmp .gt 7, 3) := by decide +kernel
theorem dX12_village_18 : decode cX12_village 18 = .ok (.iconst 1, 1) := by decide +kernel
theorem dX12_village_19 : decode cX12_village 19 = .ok (.goto 4, 3) := by decide +kernel
theorem dX12_village_22 : decode cX12_village 22 = .ok (.iconst 0, 1) := by decide +kernel
theorem dX12_village_23 : decode cX12_village 23 = .ok (.iconst 1, 1) := by decide +kernel
theorem dX12_village_24 : decode cX12_village 24 = .ok (.invokevirtual 257, 3) := by decide +kernel
theorem dX12_village_27 : decode cX12_village 27 = .ok (.ifCond .ne 5, 3) := by decide +kernel
theorem dX12_village_30 : decode cX12_village 30 = .ok (.iconst 0, 1) := by decide +kernel
theorem dX12_village_31 : decode cX12_village 31 = .ok (.ireturn, 1) := by decide +kernel
theorem dX12_village_32 : decode cX12_village 32 = .ok (.aload_n 0, 1) := by decide +kernel
theorem dX12_village_33 : decode cX12_village 33 = .ok (.iconst 0, 1) := by decide +kernel
theorem dX12_village_34 : decode cX12_village 34 = .ok (.putfield 99, 3) := by decide +kernel
theorem dX12_village_37 : decode cX12_village 37 = .ok (.aload_n 0, 1) := by decide +kernel
theorem dX12_village_38 : decode cX12_village 38 = .ok (.iconst (-1), 1) := by decide +kernel
theorem dX12_village_39 : decode cX12_village 39 = .ok (.putfield 26, 3) := by decide +kernel
theorem dX12_village_42 : decode cX12_village 42 = .ok (.aload_n 0, 1) := by decide +kernel
theorem dX12_village_43 : decode cX12_village 43 = .ok (.iconst 0, 1) := by decide +kernel
theorem dX12_village_44 : decode cX12_village 44 = .ok (.putfield 152, 3) := by decide +kernel
theorem dX12_village_47 : decode cX12_village 47 = .ok (.aload_n 0, 1) := by decide +kernel
theorem dX12_village_48 : decode cX12_village 48 = .ok (.iload_n 1, 1) := by decide +kernel
theorem dX12_village_49 : decode cX12_village 49 = .ok (.putfield 106, 3) := by decide +kernel
theorem dX12_village_52 : decode cX12_village 52 = .ok (.aload_n 0, 1) := by decide +kernel
theorem dX12_village_53 : decode cX12_village 53 = .ok (.iconst 0, 1) := by decide +kernel
theorem dX12_village_54 : decode cX12_village 54 = .ok (.putfield 109, 3) := by decide +kernel
theorem dX12_village_57 : decode cX12_village 57 = .ok (.aload_n 0, 1) := by decide +kernel
theorem dX12_village_58 : decode cX12_village 58 = .ok (.iconst 0, 1) := by decide +kernel
theorem dX12_village_59 : decode cX12_village 59 = .ok (.putfield 218, 3) := by decide +kernel
theorem dX12_village_62 : decode cX12_village 62 = .ok (.aload_n 0, 1) := by decide +kernel
theorem dX12_village_63 : decode cX12_village 63 = .ok (.iconst 0, 1) := by decide +kernel
theorem dX12_village_64 : decode cX12_village 64 = .ok (.putfield 228, 3) := by decide +kernel
theorem dX12_village_67 : decode cX12_village 67 = .ok (.aload_n 0, 1) := by decide +kernel
theorem dX12_village_68 : decode cX12_village 68 = .ok (.iconst (-1), 1) := by decide +kernel
theorem dX12_village_69 : decode cX12_village 69 = .ok (.putfield 244, 3) := by decide +kernel
theorem dX12_village_72 : decode cX12_village 72 = .ok (.aload_n 0, 1) := by decide +kernel
theorem dX12_village_73 : decode cX12_village 73 = .ok (.iconst (-1), 1) := by decide +kernel
theorem dX12_village_74 : decode cX12_village 74 = .ok (.putfield 251, 3) := by decide +kernel
theorem dX12_village_77 : decode cX12_village 77 = .ok (.iconst 0, 1) := by decide +kernel
theorem dX12_village_78 : decode cX12_village 78 = .ok (.istore_n 2, 1) := by decide +kernel
theorem dX12_village_79 : decode cX12_village 79 = .ok (.iload_n 2, 1) := by decide +kernel
theorem dX12_village_80 : decode cX12_village 80 = .ok (.bipush 86, 2) := by decide +kernel
theorem dX12_village_82 : decode cX12_village 82 = .ok (.if_icmp .ge 16, 3) := by decide +kernel
theorem dX12_village_85 : decode cX12_village 85 = .ok (.aload_n 0, 1) := by decide +kernel
theorem dX12_village_86 : decode cX12_village 86 = .ok (.getfield 35, 3) := by decide +kernel
theorem dX12_village_89 : decode cX12_village 89 = .ok (.iload_n 2, 1) := by decide +kernel
theorem dX12_village_90 : decode cX12_village 90 = .ok (.iconst 0, 1) := by decide +kernel
theorem dX12_village_91 : decode cX12_village 91 = .ok (.iastore, 1) := by decide +kernel
theorem dX12_village_92 : decode cX12_village 92 = .ok (.iinc 2 1, 3) := by decide +kernel
theorem dX12_village_95 : decode cX12_village 95 = .ok (.goto (-16), 3) := by decide +kernel
theorem dX12_village_98 : decode cX12_village 98 = .ok (.aload_n 0, 1) := by decide +kernel
theorem dX12_village_99 : decode cX12_village 99 = .ok (.iconst 0, 1) := by decide +kernel
theorem dX12_village_100 : decode cX12_village 100 = .ok (.putfield 165, 3) := by decide +kernel
theorem dX12_village_103 : decode cX12_village 103 = .ok (.aload_n 0, 1) := by decide +kernel
theorem dX12_village_104 : decode cX12_village 104 = .ok (.invokevirtual 159, 3) := by decide +kernel
theorem dX12_village_107 : decode cX12_village 107 = .ok (.aload_n 0, 1) := by decide +kernel
theorem dX12_village_108 : decode cX12_village 108 = .ok (.invokevirtual 155, 3) := by decide +kernel
theorem dX12_village_111 : decode cX12_village 111 = .ok (.ifCond .eq 17, 3) := by decide +kernel
theorem dX12_village_114 : decode cX12_village 114 = .ok (.aload_n 0, 1) := by decide +kernel
theorem dX12_village_115 : decode cX12_village 115 = .ok (.getfield 129, 3) := by decide +kernel
theorem dX12_village_118 : decode cX12_village 118 = .ok (.ifCond .eq 10, 3) := by decide +kernel
theorem dX12_village_121 : decode cX12_village 121 = .ok (.aload_n 0, 1) := by decide +kernel
theorem dX12_village_122 : decode cX12_village 122 = .ok (.invokevirtual 261, 3) := by decide +kernel
theorem dX12_village_125 : decode cX12_village 125 = .ok (.goto (-18), 3) := by decide +kernel
theorem dX12_village_128 : decode cX12_village 128 = .ok (.aload_n 0, 1) := by decide +kernel
theorem dX12_village_129 : decode cX12_village 129 = .ok (.invokevirtual 155, 3) := by decide +kernel
theorem dX12_village_132 : decode cX12_village 132 = .ok (.ifCond .ne 18, 3) := by decide +kernel
theorem dX12_village_135 : decode cX12_village 135 = .ok (.aload_n 0, 1) := by decide +kernel
theorem dX12_village_136 : decode cX12_village 136 = .ok (.getfield 29, 3) := by decide +kernel
theorem dX12_village_139 : decode cX12_village 139 = .ok (.iconst 0, 1) := by decide +kernel
theorem dX12_village_140 : decode cX12_village 140 = .ok (.dup2, 1) := by decide +kernel
theorem dX12_village_141 : decode cX12_village 141 = .ok (.iaload, 1) := by decide +kernel
theorem dX12_village_142 : decode cX12_village 142 = .ok (.iconst 1, 1) := by decide +kernel
theorem dX12_village_143 : decode cX12_village 143 = .ok (.iadd, 1) := by decide +kernel
theorem dX12_village_144 : decode cX12_village 144 = .ok (.iastore, 1) := by decide +kernel
theorem dX12_village_145 : decode cX12_village 145 = .ok (.aload_n 0, 1) := by decide +kernel
theorem dX12_village_146 : decode cX12_village 146 = .ok (.getfield 152, 3) := by decide +kernel
theorem dX12_village_149 : decode cX12_village 149 = .ok (.ireturn, 1) := by decide +kernel
theorem dX12_village_150 : decode cX12_village 150 = .ok (.aload_n 0, 1) := by decide +kernel
theorem dX12_village_151 : decode cX12_village 151 = .ok (.aload_n 0, 1) := by decide +kernel
theorem dX12_village_152 : decode cX12_village 152 = .ok (.getfield 218, 3) := by decide +kernel
theorem dX12_village_155 : decode cX12_village 155 = .ok (.putfield 264, 3) := by decide +kernel
theorem dX12_village_158 : decode cX12_village 158 = .ok (.aload_n 0, 1) := by decide +kernel
theorem dX12_village_159 : decode cX12_village 159 = .ok (.aload_n 0, 1) := by decide +kernel
theorem dX12_village_160 : decode cX12_village 160 = .ok (.getfield 228, 3) := by decide +kernel
theorem dX12_village_163 : decode cX12_village 163 = .ok (.putfield 267, 3) := by decide +kernel
theorem dX12_village_166 : decode cX12_village 166 = .ok (.aload_n 0, 1) := by decide +kernel
theorem dX12_village_167 : decode cX12_village 167 = .ok (.aload_n 0, 1) := by decide +kernel
theorem dX12_village_168 : decode cX12_village 168 = .ok (.getfield 244, 3) := by decide +kernel
theorem dX12_village_171 : decode cX12_village 171 = .ok (.putfield 9, 3) := by decide +kernel
theorem dX12_village_174 : decode cX12_village 174 = .ok (.aload_n 0, 1) := by decide +kernel
theorem dX12_village_175 : decode cX12_village 175 = .ok (.aload_n 0, 1) := by decide +kernel
theorem dX12_village_176 : decode cX12_village 176 = .ok (.getfield 251, 3) := by decide +kernel
theorem dX12_village_179 : decode cX12_village 179 = .ok (.putfield 13, 3) := by decide +kernel
theorem dX12_village_182 : decode cX12_village 182 = .ok (.aload_n 0, 1) := by decide +kernel
theorem dX12_village_183 : decode cX12_village 183 = .ok (.aload_n 0, 1) := by decide +kernel
theorem dX12_village_184 : decode cX12_village 184 = .ok (.getfield 32, 3) := by decide +kernel
theorem dX12_village_187 : decode cX12_village 187 = .ok (.aload_n 0, 1) := by decide +kernel
theorem dX12_village_188 : decode cX12_village 188 = .ok (.getfield 16, 3) := by decide +kernel
theorem dX12_village_191 : decode cX12_village 191 = .ok (.invokevirtual 270, 3) := by decide +kernel
theorem dX12_village_194 : decode cX12_village 194 = .ok (.aload_n 0, 1) := by decide +kernel
theorem dX12_village_195 : decode cX12_village 195 = .ok (.aload_n 0, 1) := by decide +kernel
theorem dX12_village_196 : decode cX12_village 196 = .ok (.getfield 38, 3) := by decide +kernel
theorem dX12_village_199 : decode cX12_village 199 = .ok (.aload_n 0, 1) := by decide +kernel
theorem dX12_village_200 : decode cX12_village 200 = .ok (.getfield 20, 3) := by decide +kernel
theorem dX12_village_203 : decode cX12_village 203 = .ok (.invokevirtual 270, 3) := by decide +kernel
theorem dX12_village_206 : decode cX12_village 206 = .ok (.iconst 0, 1) := by decide +kernel
theorem dX12_village_207 : decode cX12_village 207 = .ok (.istore_n 2, 1) := by decide +kernel
theorem dX12_village_208 : decode cX12_village 208 = .ok (.iload_n 2, 1) := by decide +kernel
theorem dX12_village_209 : decode cX12_village 209 = .ok (.bipush 86, 2) := by decide +kernel
theorem dX12_village_211 : decode cX12_village 211 = .ok (.if_icmp .ge 21, 3) := by decide +kernel
theorem dX12_village_214 : decode cX12_village 214 = .ok (.aload_n 0, 1) := by decide +kernel
theorem dX12_village_215 : decode cX12_village 215 = .ok (.getfield 48, 3) := by decide +kernel
theorem dX12_village_218 : decode cX12_village 218 = .ok (.iload_n 2, 1) := by decide +kernel
theorem dX12_village_219 : decode cX12_village 219 = .ok (.aload_n 0, 1) := by decide +kernel
theorem dX12_village_220 : decode cX12_village 220 = .ok (.getfield 35, 3) := by decide +kernel
theorem dX12_village_223 : decode cX12_village 223 = .ok (.iload_n 2, 1) := by decide +kernel
theorem dX12_village_224 : decode cX12_village 224 = .ok (.iaload, 1) := by decide +kernel
theorem dX12_village_225 : decode cX12_village 225 = .ok (.iastore, 1) := by decide +kernel
theorem dX12_village_226 : decode cX12_village 226 = .ok (.iinc 2 1, 3) := by decide +kernel
theorem dX12_village_229 : decode cX12_village 229 = .ok (.goto (-21), 3) := by decide +kernel
theorem dX12_village_232 : decode cX12_village 232 = .ok (.iconst 0, 1) := by decide +kernel
theorem dX12_village_233 : decode cX12_village 233 = .ok (.istore_n 2, 1) := by decide +kernel
theorem dX12_village_234 : decode cX12_village 234 = .ok (.iload_n 2, 1) := by decide +kernel
theorem dX12_village_235 : decode cX12_village 235 = .ok (.aload_n 0, 1) := by decide +kernel
theorem dX12_village_236 : decode cX12_village 236 = .ok (.getfield 264, 3) := by decide +kernel
theorem dX12_village_239 : decode cX12_village 239 = .ok (.if_icmp .ge 58, 3) := by decide +kernel
theorem dX12_village_242 : decode cX12_village 242 = .ok (.aload_n 0, 1) := by decide +kernel
theorem dX12_village_243 : decode cX12_village 243 = .ok (.getfield 48, 3) := by decide +kernel
theorem dX12_village_246 : decode cX12_village 246 = .ok (.iconst 2, 1) := by decide +kernel
theorem dX12_village_247 : decode cX12_village 247 = .ok (.iload_n 2, 1) := by decide +kernel
theorem dX12_village_248 : decode cX12_village 248 = .ok (.iadd, 1) := by decide +kernel
theorem dX12_village_249 : decode cX12_village 249 = .ok (.iaload, 1) := by decide +kernel
theorem dX12_village_250 : decode cX12_village 250 = .ok (.iconst (-1), 1) := by decide +kernel
theorem dX12_village_251 : decode cX12_village 251 = .ok (.if_icmp .eq 6, 3) := by decide +kernel
theorem dX12_village_254 : decode cX12_village 254 = .ok (.goto 37, 3) := by decide +kernel
theorem dX12_village_257 : decode cX12_village 257 = .ok (.aload_n 0, 1) := by decide +kernel
theorem dX12_village_258 : decode cX12_village 258 = .ok (.getfield 48, 3) := by decide +kernel
theorem dX12_village_261 : decode cX12_village 261 = .ok (.iconst 2, 1) := by decide +kernel
theorem dX12_village_262 : decode cX12_village 262 = .ok (.iload_n 2, 1) := by decide +kernel
theorem dX12_village_263 : decode cX12_village 263 = .ok (.iadd, 1) := by decide +kernel
theorem dX12_village_264 : decode cX12_village 264 = .ok (.aload_n 0, 1) := by decide +kernel
theorem dX12_village_265 : decode cX12_village 265 = .ok (.getfield 48, 3) := by decide +kernel
theorem dX12_village_268 : decode cX12_village 268 = .ok (.iconst 1, 1) := by decide +kernel
theorem dX12_village_269 : decode cX12_village 269 = .ok (.iaload, 1) := by decide +kernel
theorem dX12_village_270 : decode cX12_village 270 = .ok (.iastore, 1) := by decide +kernel
theorem dX12_village_271 : decode cX12_village 271 = .ok (.aload_n 0, 1) := by decide +kernel
theorem dX12_village_272 : decode cX12_village 272 = .ok (.getfield 48, 3) := by decide +kernel
theorem dX12_village_275 : decode cX12_village 275 = .ok (.bipush 14, 2) := by decide +kernel
theorem dX12_village_277 : decode cX12_village 277 = .ok (.iload_n 2, 1) := by decide +kernel
theorem dX12_village_278 : decode cX12_village 278 = .ok (.iadd, 1) := by decide +kernel
theorem dX12_village_279 : decode cX12_village 279 = .ok (.iconst 0, 1) := by decide +kernel
theorem dX12_village_280 : decode cX12_village 280 = .ok (.iastore, 1) := by decide +kernel
theorem dX12_village_281 : decode cX12_village 281 = .ok (.aload_n 0, 1) := by decide +kernel
theorem dX12_village_282 : decode cX12_village 282 = .ok (.getfield 48, 3) := by decide +kernel
theorem dX12_village_285 : decode cX12_village 285 = .ok (.iconst 1, 1) := by decide +kernel
theorem dX12_village_286 : decode cX12_village 286 = .ok (.dup2, 1) := by decide +kernel
theorem dX12_village_287 : decode cX12_village 287 = .ok (.iaload, 1) := by decide +kernel
theorem dX12_village_288 : decode cX12_village 288 = .ok (.iconst 1, 1) := by decide +kernel
theorem dX12_village_289 : decode cX12_village 289 = .ok (.iadd, 1) := by decide +kernel
theorem dX12_village_290 : decode cX12_village 290 = .ok (.iastore, 1) := by decide +kernel
theorem dX12_village_291 : decode cX12_village 291 = .ok (.iinc 2 1, 3) := by decide +kernel
theorem dX12_village_294 : decode cX12_village 294 = .ok (.goto (-60), 3) := by decide +kernel
theorem dX12_village_297 : decode cX12_village 297 = .ok (.aload_n 0, 1) := by decide +kernel
theorem dX12_village_298 : decode cX12_village 298 = .ok (.iconst 0, 1) := by decide +kernel
theorem dX12_village_299 : decode cX12_village 299 = .ok (.putfield 274, 3) := by decide +kernel
theorem dX12_village_302 : decode cX12_village 302 = .ok (.aload_n 0, 1) := by decide +kernel
theorem dX12_village_303 : decode cX12_village 303 = .ok (.iconst 0, 1) := by decide +kernel
theorem dX12_village_304 : decode cX12_village 304 = .ok (.putfield 277, 3) := by decide +kernel
theorem dX12_village_307 : decode cX12_village 307 = .ok (.aload_n 0, 1) := by decide +kernel
theorem dX12_village_308 : decode cX12_village 308 = .ok (.iconst 0, 1) := by decide +kernel
theorem dX12_village_309 : decode cX12_village 309 = .ok (.putfield 280, 3) := by decide +kernel
theorem dX12_village_312 : decode cX12_village 312 = .ok (.iconst 0, 1) := by decide +kernel
theorem dX12_village_313 : decode cX12_village 313 = .ok (.ireturn, 1) := by decide +kernel
theorem dX12_fault_0 : decode cX12_fault 0 = .ok (.aload_n 0, 1) := by decide +kernel
theorem dX12_fault_1 : decode cX12_fault 1 = .ok (.iconst 0, 1) := by decide +kernel
theorem dX12_fault_2 : decode cX12_fault 2 = .ok (.putfield 96, 3) := by decide +kernel
theorem dX12_fault_5 : decode cX12_fault 5 = .ok (.aload_n 0, 1) := by decide +kernel
theorem dX12_fault_6 : decode cX12_fault 6 = .ok (.getfield 26, 3) := by decide +kernel
theorem dX12_fault_9 : decode cX12_fault 9 = .ok (.ireturn, 1) := by decide +kernel
theorem dX12_keeps0_0 : decode cX12_keeps0 0 = .ok (.aload_n 0, 1) := by decide +kernel
theorem dX12_keeps0_1 : decode cX12_keeps0 1 = .ok (.getfield 274, 3) := by decide +kernel
theorem dX12_keeps0_4 : decode cX12_keeps0 4 = .ok (.bipush 40, 2) := by decide +kernel
theorem dX12_keeps0_6 : decode cX12_keeps0 6 = .ok (.if_icmp .ne 44, 3) := by decide +kernel
theorem dX12_keeps0_9 : decode cX12_keeps0 9 = .ok (.bipush 86, 2) := by decide +kernel
theorem dX12_keeps0_11 : decode cX12_keeps0 11 = .ok (.istore_n 1, 1) := by decide +kernel
theorem dX12_keeps0_12 : decode cX12_keeps0 12 = .ok (.iload_n 1, 1) := by decide +kernel
theorem dX12_keeps0_13 : decode cX12_keeps0 13 = .ok (.sipush 3440, 3) := by decide +kernel
theorem dX12_keeps0_16 : decode cX12_keeps0 16 = .ok (.if_icmp .ge 24, 3) := by decide +kernel
theorem dX12_keeps0_19 : decode cX12_keeps0 19 = .ok (.aload_n 0, 1) := by decide +kernel
theorem dX12_keeps0_20 : decode cX12_keeps0 20 = .ok (.getfield 51, 3) := by decide +kernel
theorem dX12_keeps0_23 : decode cX12_keeps0 23 = .ok (.iload_n 1, 1) := by decide +kernel
theorem dX12_keeps0_24 : decode cX12_keeps0 24 = .ok (.bipush 86, 2) := by decide +kernel
theorem dX12_keeps0_26 : decode cX12_keeps0 26 = .ok (.isub, 1) := by decide +kernel
theorem dX12_keeps0_27 : decode cX12_keeps0 27 = .ok (.aload_n 0, 1) := by decide +kernel
theorem dX12_keeps0_28 : decode cX12_keeps0 28 = .ok (.getfield 51, 3) := by decide +kernel
theorem dX12_keeps0_31 : decode cX12_keeps0 31 = .ok (.iload_n 1, 1) := by decide +kernel
theorem dX12_keeps0_32 : decode cX12_keeps0 32 = .ok (.iaload, 1) := by decide +kernel
theorem dX12_keeps0_33 : decode cX12_keeps0 33 = .ok (.iastore, 1) := by decide +kernel
theorem dX12_keeps0_34 : decode cX12_keeps0 34 = .ok (.iinc 1 1, 3) := by decide +kernel
theorem dX12_keeps0_37 : decode cX12_keeps0 37 = .ok (.goto (-25), 3) := by decide +kernel
theorem dX12_keeps0_40 : decode cX12_keeps0 40 = .ok (.aload_n 0, 1) := by decide +kernel
theorem dX12_keeps0_41 : decode cX12_keeps0 41 = .ok (.dup, 1) := by decide +kernel
theorem dX12_keeps0_42 : decode cX12_keeps0 42 = .ok (.getfield 274, 3) := by decide +kernel
theorem dX12_keeps0_45 : decode cX12_keeps0 45 = .ok (.iconst 1, 1) := by decide +kernel
theorem dX12_keeps0_46 : decode cX12_keeps0 46 = .ok (.isub, 1) := by decide +kernel
theorem dX12_keeps0_47 : decode cX12_keeps0 47 = .ok (.putfield 274, 3) := by decide +kernel
theorem dX12_keeps0_50 : decode cX12_keeps0 50 = .ok (.iconst 0, 1) := by decide +kernel
theorem dX12_keeps0_51 : decode cX12_keeps0 51 = .ok (.istore_n 1, 1) := by decide +kernel
theorem dX12_keeps0_52 : decode cX12_keeps0 52 = .ok (.iload_n 1, 1) := by decide +kernel
theorem dX12_keeps0_53 : decode cX12_keeps0 53 = .ok (.bipush 86, 2) := by decide +kernel
theorem dX12_keeps0_55 : decode cX12_keeps0 55 = .ok (.if_icmp .ge 29, 3) := by decide +kernel
theorem dX12_keeps0_58 : decode cX12_keeps0 58 = .ok (.aload_n 0, 1) := by decide +kernel
theorem dX12_keeps0_59 : decode cX12_keeps0 59 = .ok (.getfield 51, 3) := by decide +kernel
theorem dX12_keeps0_62 : decode cX12_keeps0 62 = .ok (.bipush 86, 2) := by decide +kernel
theorem dX12_keeps0_64 : decode cX12_keeps0 64 = .ok (.aload_n 0, 1) := by decide +kernel
theorem dX12_keeps0_65 : decode cX12_keeps0 65 = .ok (.getfield 274, 3) := by decide +kernel
theorem dX12_keeps0_68 : decode cX12_keeps0 68 = .ok (.imul, 1) := by decide +kernel
theorem dX12_keeps0_69 : decode cX12_keeps0 69 = .ok (.iload_n 1, 1) := by decide +kernel
theorem dX12_keeps0_70 : decode cX12_keeps0 70 = .ok (.iadd, 1) := by decide +kernel
theorem dX12_keeps0_71 : decode cX12_keeps0 71 = .ok (.aload_n 0, 1) := by decide +kernel
theorem dX12_keeps0_72 : decode cX12_keeps0 72 = .ok (.getfield 48, 3) := by decide +kernel
theorem dX12_keeps0_75 : decode cX12_keeps0 75 = .ok (.iload_n 1, 1) := by decide +kernel
theorem dX12_keeps0_76 : decode cX12_keeps0 76 = .ok (.iaload, 1) := by decide +kernel
theorem dX12_keeps0_77 : decode cX12_keeps0 77 = .ok (.iastore, 1) := by decide +kernel
theorem dX12_keeps0_78 : decode cX12_keeps0 78 = .ok (.iinc 1 1, 3) := by decide +kernel
theorem dX12_keeps0_81 : decode cX12_keeps0 81 = .ok (.goto (-29), 3) := by decide +kernel
theorem dX12_keeps0_84 : decode cX12_keeps0 84 = .ok (.aload_n 0, 1) := by decide +kernel
theorem dX12_keeps0_85 : decode cX12_keeps0 85 = .ok (.dup, 1) := by decide +kernel
theorem dX12_keeps0_86 : decode cX12_keeps0 86 = .ok (.getfield 274, 3) := by decide +kernel
theorem dX12_keeps0_89 : decode cX12_keeps0 89 = .ok (.iconst 1, 1) := by decide +kernel
theorem dX12_keeps0_90 : decode cX12_keeps0 90 = .ok (.iadd, 1) := by decide +kernel
theorem dX12_keeps0_91 : decode cX12_keeps0 91 = .ok (.putfield 274, 3) := by decide +kernel
theorem dX12_keeps0_94 : decode cX12_keeps0 94 = .ok (.return_, 1) := by decide +kernel
theorem dX12_refuses_0 : decode cX12_refuses 0 = .ok (.aload_n 0, 1) := by decide +kernel
theorem dX12_refuses_1 : decode cX12_refuses 1 = .ok (.getfield 29, 3) := by decide +kernel
theorem dX12_refuses_4 : decode cX12_refuses 4 = .ok (.iload_n 1, 1) := by decide +kernel
theorem dX12_refuses_5 : decode cX12_refuses 5 = .ok (.dup2, 1) := by decide +kernel
theorem dX12_refuses_6 : decode cX12_refuses 6 = .ok (.iaload, 1) := by decide +kernel
theorem dX12_refuses_7 : decode cX12_refuses 7 = .ok (.iconst 1, 1) := by decide +kernel
theorem dX12_refuses_8 : decode cX12_refuses 8 = .ok (.iadd, 1) := by decide +kernel
theorem dX12_refuses_9 : decode cX12_refuses 9 = .ok (.iastore, 1) := by decide +kernel
theorem dX12_refuses_10 : decode cX12_refuses 10 = .ok (.iconst (-1), 1) := by decide +kernel
theorem dX12_refuses_11 : decode cX12_refuses 11 = .ok (.ireturn, 1) := by decide +kernel
theorem dX12_undo_0 : decode cX12_undo 0 = .ok (.aload_n 0, 1) := by decide +kernel
theorem dX12_undo_1 : decode cX12_undo 1 = .ok (.iconst 0, 1) := by decide +kernel
theorem dX12_undo_2 : decode cX12_undo 2 = .ok (.putfield 96, 3) := by decide +kernel
theorem dX12_undo_5 : decode cX12_undo 5 = .ok (.aload_n 0, 1) := by decide +kernel
theorem dX12_undo_6 : decode cX12_undo 6 = .ok (.getfield 274, 3) := by decide +kernel
theorem dX12_undo_9 : decode cX12_undo 9 = .ok (.ifCond .ne 5, 3) := by decide +kernel
theorem dX12_undo_12 : decode cX12_undo 12 = .ok (.iconst (-1), 1) := by decide +kernel
theorem dX12_undo_13 : decode cX12_undo 13 = .ok (.ireturn, 1) := by decide +kernel
theorem dX12_undo_14 : decode cX12_undo 14 = .ok (.aload_n 0, 1) := by decide +kernel
theorem dX12_undo_15 : decode cX12_undo 15 = .ok (.dup, 1) := by decide +kernel
theorem dX12_undo_16 : decode cX12_undo 16 = .ok (.getfield 274, 3) := by decide +kernel
theorem dX12_undo_19 : decode cX12_undo 19 = .ok (.iconst 1, 1) := by decide +kernel
theorem dX12_undo_20 : decode cX12_undo 20 = .ok (.isub, 1) := by decide +kernel
theorem dX12_undo_21 : decode cX12_undo 21 = .ok (.putfield 274, 3) := by decide +kernel
theorem dX12_undo_24 : decode cX12_undo 24 = .ok (.iconst 0, 1) := by decide +kernel
theorem dX12_undo_25 : decode cX12_undo 25 = .ok (.istore_n 1, 1) := by decide +kernel
theorem dX12_undo_26 : decode cX12_undo 26 = .ok (.iload_n 1, 1) := by decide +kernel
theorem dX12_undo_27 : decode cX12_undo 27 = .ok (.bipush 86, 2) := by decide +kernel
theorem dX12_undo_29 : decode cX12_undo 29 = .ok (.if_icmp .ge 29, 3) := by decide +kernel
theorem dX12_undo_32 : decode cX12_undo 32 = .ok (.aload_n 0, 1) := by decide +kernel
theorem dX12_undo_33 : decode cX12_undo 33 = .ok (.getfield 48, 3) := by decide +kernel
theorem dX12_undo_36 : decode cX12_undo 36 = .ok (.iload_n 1, 1) := by decide +kernel
theorem dX12_undo_37 : decode cX12_undo 37 = .ok (.aload_n 0, 1) := by decide +kernel
theorem dX12_undo_38 : decode cX12_undo 38 = .ok (.getfield 51, 3) := by decide +kernel
theorem dX12_undo_41 : decode cX12_undo 41 = .ok (.bipush 86, 2) := by decide +kernel
theorem dX12_undo_43 : decode cX12_undo 43 = .ok (.aload_n 0, 1) := by decide +kernel
theorem dX12_undo_44 : decode cX12_undo 44 = .ok (.getfield 274, 3) := by decide +kernel
theorem dX12_undo_47 : decode cX12_undo 47 = .ok (.imul, 1) := by decide +kernel
theorem dX12_undo_48 : decode cX12_undo 48 = .ok (.iload_n 1, 1) := by decide +kernel
theorem dX12_undo_49 : decode cX12_undo 49 = .ok (.iadd, 1) := by decide +kernel
theorem dX12_undo_50 : decode cX12_undo 50 = .ok (.iaload, 1) := by decide +kernel
theorem dX12_undo_51 : decode cX12_undo 51 = .ok (.iastore, 1) := by decide +kernel
theorem dX12_undo_52 : decode cX12_undo 52 = .ok (.iinc 1 1, 3) := by decide +kernel
theorem dX12_undo_55 : decode cX12_undo 55 = .ok (.goto (-29), 3) := by decide +kernel
theorem dX12_undo_58 : decode cX12_undo 58 = .ok (.aload_n 0, 1) := by decide +kernel
theorem dX12_undo_59 : decode cX12_undo 59 = .ok (.getfield 274, 3) := by decide +kernel
theorem dX12_undo_62 : decode cX12_undo 62 = .ok (.ireturn, 1) := by decide +kernel
theorem dX12_tries_0 : decode cX12_tries 0 = .ok (.iconst 0, 1) := by decide +kernel
theorem dX12_tries_1 : decode cX12_tries 1 = .ok (.istore_n 1, 1) := by decide +kernel
theorem dX12_tries_2 : decode cX12_tries 2 = .ok (.iload_n 1, 1) := by decide +kernel
theorem dX12_tries_3 : decode cX12_tries 3 = .ok (.bipush 86, 2) := by decide +kernel
theorem dX12_tries_5 : decode cX12_tries 5 = .ok (.if_icmp .ge 24, 3) := by decide +kernel
theorem dX12_tries_8 : decode cX12_tries 8 = .ok (.aload_n 0, 1) := by decide +kernel
theorem dX12_tries_9 : decode cX12_tries 9 = .ok (.getfield 48, 3) := by decide +kernel
theorem dX12_tries_12 : decode cX12_tries 12 = .ok (.bipush 86, 2) := by decide +kernel
theorem dX12_tries_14 : decode cX12_tries 14 = .ok (.iload_n 1, 1) := by decide +kernel
theorem dX12_tries_15 : decode cX12_tries 15 = .ok (.iadd, 1) := by decide +kernel
theorem dX12_tries_16 : decode cX12_tries 16 = .ok (.aload_n 0, 1) := by decide +kernel
theorem dX12_tries_17 : decode cX12_tries 17 = .ok (.getfield 48, 3) := by decide +kernel
theorem dX12_tries_20 : decode cX12_tries 20 = .ok (.iload_n 1, 1) := by decide +kernel
theorem dX12_tries_21 : decode cX12_tries 21 = .ok (.iaload, 1) := by decide +kernel
theorem dX12_tries_22 : decode cX12_tries 22 = .ok (.iastore, 1) := by decide +kernel
theorem dX12_tries_23 : decode cX12_tries 23 = .ok (.iinc 1 1, 3) := by decide +kernel
theorem dX12_tries_26 : decode cX12_tries 26 = .ok (.goto (-24), 3) := by decide +kernel
theorem dX12_tries_29 : decode cX12_tries 29 = .ok (.iconst 0, 1) := by decide +kernel
theorem dX12_tries_30 : decode cX12_tries 30 = .ok (.istore_n 1, 1) := by decide +kernel
theorem dX12_tries_31 : decode cX12_tries 31 = .ok (.iload_n 1, 1) := by decide +kernel
theorem dX12_tries_32 : decode cX12_tries 32 = .ok (.bipush 12, 2) := by decide +kernel
theorem dX12_tries_34 : decode cX12_tries 34 = .ok (.if_icmp .ge 20, 3) := by decide +kernel
theorem dX12_tries_37 : decode cX12_tries 37 = .ok (.aload_n 0, 1) := by decide +kernel
theorem dX12_tries_38 : decode cX12_tries 38 = .ok (.getfield 48, 3) := by decide +kernel
theorem dX12_tries_41 : decode cX12_tries 41 = .ok (.sipush 160, 3) := by decide +kernel
theorem dX12_tries_44 : decode cX12_tries 44 = .ok (.iload_n 1, 1) := by decide +kernel
theorem dX12_tries_45 : decode cX12_tries 45 = .ok (.iadd, 1) := by decide +kernel
theorem dX12_tries_46 : decode cX12_tries 46 = .ok (.iload_n 1, 1) := by decide +kernel
theorem dX12_tries_47 : decode cX12_tries 47 = .ok (.iastore, 1) := by decide +kernel
theorem dX12_tries_48 : decode cX12_tries 48 = .ok (.iinc 1 1, 3) := by decide +kernel
theorem dX12_tries_51 : decode cX12_tries 51 = .ok (.goto (-20), 3) := by decide +kernel
theorem dX12_tries_54 : decode cX12_tries 54 = .ok (.return_, 1) := by decide +kernel
theorem dX12_works_0 : decode cX12_works 0 = .ok (.iload_n 0, 1) := by decide +kernel
theorem dX12_works_1 : decode cX12_works 1 = .ok (.tableswitch 105 4 10 #[43, 57, 71, 82, 93, 97, 101], 43) := by decide +kernel
theorem dX12_works_44 : decode cX12_works 44 = .ok (.iload_n 1, 1) := by decide +kernel
theorem dX12_works_45 : decode cX12_works 45 = .ok (.ifCond .eq 11, 3) := by decide +kernel
theorem dX12_works_48 : decode cX12_works 48 = .ok (.iload_n 2, 1) := by decide +kernel
theorem dX12_works_49 : decode cX12_works 49 = .ok (.ifCond .eq 7, 3) := by decide +kernel
theorem dX12_works_52 : decode cX12_works 52 = .ok (.iconst 1, 1) := by decide +kernel
theorem dX12_works_53 : decode cX12_works 53 = .ok (.goto 4, 3) := by decide +kernel
theorem dX12_works_56 : decode cX12_works 56 = .ok (.iconst 0, 1) := by decide +kernel
theorem dX12_works_57 : decode cX12_works 57 = .ok (.ireturn, 1) := by decide +kernel
theorem dX12_works_58 : decode cX12_works 58 = .ok (.iload_n 1, 1) := by decide +kernel
theorem dX12_works_59 : decode cX12_works 59 = .ok (.ifCond .ne 7, 3) := by decide +kernel
theorem dX12_works_62 : decode cX12_works 62 = .ok (.iload_n 2, 1) := by decide +kernel
theorem dX12_works_63 : decode cX12_works 63 = .ok (.ifCond .eq 7, 3) := by decide +kernel
theorem dX12_works_66 : decode cX12_works 66 = .ok (.iconst 1, 1) := by decide +kernel
theorem dX12_works_67 : decode cX12_works 67 = .ok (.goto 4, 3) := by decide +kernel
theorem dX12_works_70 : decode cX12_works 70 = .ok (.iconst 0, 1) := by decide +kernel
theorem dX12_works_71 : decode cX12_works 71 = .ok (.ireturn, 1) := by decide +kernel
theorem dX12_works_72 : decode cX12_works 72 = .ok (.iload_n 1, 1) := by decide +kernel
theorem dX12_works_73 : decode cX12_works 73 = .ok (.iload_n 2, 1) := by decide +kernel
theorem dX12_works_74 : decode cX12_works 74 = .ok (.if_icmp .ge 7, 3) := by decide +kernel
theorem dX12_works_77 : decode cX12_works 77 = .ok (.iconst 1, 1) := by decide +kernel
theorem dX12_works_78 : decode cX12_works 78 = .ok (.goto 4, 3) := by decide +kernel
theorem dX12_works_81 : decode cX12_works 81 = .ok (.iconst 0, 1) := by decide +kernel
theorem dX12_works_82 : decode cX12_works 82 = .ok (.ireturn, 1) := by decide +kernel
theorem dX12_works_83 : decode cX12_works 83 = .ok (.iload_n 1, 1) := by decide +kernel
theorem dX12_works_84 : decode cX12_works 84 = .ok (.iload_n 2, 1) := by decide +kernel
theorem dX12_works_85 : decode cX12_works 85 = .ok (.if_icmp .ne 7, 3) := by decide +kernel
theorem dX12_works_88 : decode cX12_works 88 = .ok (.iconst 1, 1) := by decide +kernel
theorem dX12_works_89 : decode cX12_works 89 = .ok (.goto 4, 3) := by decide +kernel
theorem dX12_works_92 : decode cX12_works 92 = .ok (.iconst 0, 1) := by decide +kernel
theorem dX12_works_93 : decode cX12_works 93 = .ok (.ireturn, 1) := by decide +kernel
theorem dX12_works_94 : decode cX12_works 94 = .ok (.iload_n 1, 1) := by decide +kernel
theorem dX12_works_95 : decode cX12_works 95 = .ok (.iload_n 2, 1) := by decide +kernel
theorem dX12_works_96 : decode cX12_works 96 = .ok (.iadd, 1) := by decide +kernel
theorem dX12_works_97 : decode cX12_works 97 = .ok (.ireturn, 1) := by decide +kernel
theorem dX12_works_98 : decode cX12_works 98 = .ok (.iload_n 1, 1) := by decide +kernel
theorem dX12_works_99 : decode cX12_works 99 = .ok (.iload_n 2, 1) := by decide +kernel
theorem dX12_works_100 : decode cX12_works 100 = .ok (.isub, 1) := by decide +kernel
theorem dX12_works_101 : decode cX12_works 101 = .ok (.ireturn, 1) := by decide +kernel
theorem dX12_works_102 : decode cX12_works 102 = .ok (.iload_n 1, 1) := by decide +kernel
theorem dX12_works_103 : decode cX12_works 103 = .ok (.iload_n 2, 1) := by decide +kernel
theorem dX12_works_104 : decode cX12_works 104 = .ok (.imul, 1) := by decide +kernel
theorem dX12_works_105 : decode cX12_works 105 = .ok (.ireturn, 1) := by decide +kernel
theorem dX12_works_106 : decode cX12_works 106 = .ok (.iload_n 2, 1) := by decide +kernel
theorem dX12_works_107 : decode cX12_works 107 = .ok (.ifCond .ne 7, 3) := by decide +kernel
theorem dX12_works_110 : decode cX12_works 110 = .ok (.iconst 0, 1) := by decide +kernel
theorem dX12_works_111 : decode cX12_works 111 = .ok (.goto 6, 3) := by decide +kernel
theorem dX12_works_114 : decode cX12_works 114 = .ok (.iload_n 1, 1) := by decide +kernel
theorem dX12_works_115 : decode cX12_works 115 = .ok (.iload_n 2, 1) := by decide +kernel
theorem dX12_works_116 : decode cX12_works 116 = .ok (.idiv, 1) := by decide +kernel
theorem dX12_works_117 : decode cX12_works 117 = .ok (.ireturn, 1) := by decide +kernel
theorem dX12_reckons_0 : decode cX12_reckons 0 = .ok (.iconst 0, 1) := by decide +kernel
theorem dX12_reckons_1 : decode cX12_reckons 1 = .ok (.istore_n 2, 1) := by decide +kernel
theorem dX12_reckons_2 : decode cX12_reckons 2 = .ok (.iload_n 1, 1) := by decide +kernel
theorem dX12_reckons_3 : decode cX12_reckons 3 = .ok (.istore_n 3, 1) := by decide +kernel
theorem dX12_reckons_4 : decode cX12_reckons 4 = .ok (.aload_n 0, 1) := by decide +kernel
theorem dX12_reckons_5 : decode cX12_reckons 5 = .ok (.getfield 20, 3) := by decide +kernel
theorem dX12_reckons_8 : decode cX12_reckons 8 = .ok (.iload_n 3, 1) := by decide +kernel
theorem dX12_reckons_9 : decode cX12_reckons 9 = .ok (.iaload, 1) := by decide +kernel
theorem dX12_reckons_10 : decode cX12_reckons 10 = .ok (.ifCond .eq 133, 3) := by decide +kernel
theorem dX12_reckons_13 : decode cX12_reckons 13 = .ok (.aload_n 0, 1) := by decide +kernel
theorem dX12_reckons_14 : decode cX12_reckons 14 = .ok (.getfield 20, 3) := by decide +kernel
theorem dX12_reckons_17 : decode cX12_reckons 17 = .ok (.iload_n 3, 1) := by decide +kernel
theorem dX12_reckons_18 : decode cX12_reckons 18 = .ok (.iaload, 1) := by decide +kernel
theorem dX12_reckons_19 : decode cX12_reckons 19 = .ok (.istore 4, 2) := by decide +kernel
theorem dX12_reckons_21 : decode cX12_reckons 21 = .ok (.iinc 3 1, 3) := by decide +kernel
theorem dX12_reckons_24 : decode cX12_reckons 24 = .ok (.iload 4, 2) := by decide +kernel
theorem dX12_reckons_26 : decode cX12_reckons 26 = .ok (.iconst 1, 1) := by decide +kernel
theorem dX12_reckons_27 : decode cX12_reckons 27 = .ok (.if_icmp .eq 9, 3) := by decide +kernel
theorem dX12_reckons_30 : decode cX12_reckons 30 = .ok (.iload 4, 2) := by decide +kernel
theorem dX12_reckons_32 : decode cX12_reckons 32 = .ok (.iconst 2, 1) := by decide +kernel
theorem dX12_reckons_33 : decode cX12_reckons 33 = .ok (.if_icmp .ne 44, 3) := by decide +kernel
theorem dX12_reckons_36 : decode cX12_reckons 36 = .ok (.aload_n 0, 1) := by decide +kernel
theorem dX12_reckons_37 : decode cX12_reckons 37 = .ok (.getfield 57, 3) := by decide +kernel
theorem dX12_reckons_40 : decode cX12_reckons 40 = .ok (.iload_n 2, 1) := by decide +kernel
theorem dX12_reckons_41 : decode cX12_reckons 41 = .ok (.iload 4, 2) := by decide +kernel
theorem dX12_reckons_43 : decode cX12_reckons 43 = .ok (.iconst 1, 1) := by decide +kernel
theorem dX12_reckons_44 : decode cX12_reckons 44 = .ok (.if_icmp .ne 12, 3) := by decide +kernel
theorem dX12_reckons_47 : decode cX12_reckons 47 = .ok (.aload_n 0, 1) := by decide +kernel
theorem dX12_reckons_48 : decode cX12_reckons 48 = .ok (.getfield 20, 3) := by decide +kernel
theorem dX12_reckons_51 : decode cX12_reckons 51 = .ok (.iload_n 3, 1) := by decide +kernel
theorem dX12_reckons_52 : decode cX12_reckons 52 = .ok (.iaload, 1) := by decide +kernel
theorem dX12_reckons_53 : decode cX12_reckons 53 = .ok (.goto 14, 3) := by decide +kernel
theorem dX12_reckons_56 : decode cX12_reckons 56 = .ok (.aload_n 0, 1) := by decide +kernel
theorem dX12_reckons_57 : decode cX12_reckons 57 = .ok (.getfield 54, 3) := by decide +kernel
theorem dX12_reckons_60 : decode cX12_reckons 60 = .ok (.aload_n 0, 1) := by decide +kernel
theorem dX12_reckons_61 : decode cX12_reckons 61 = .ok (.getfield 20, 3) := by decide +kernel
theorem dX12_reckons_64 : decode cX12_reckons 64 = .ok (.iload_n 3, 1) := by decide +kernel
theorem dX12_reckons_65 : decode cX12_reckons 65 = .ok (.iaload, 1) := by decide +kernel
theorem dX12_reckons_66 : decode cX12_reckons 66 = .ok (.iaload, 1) := by decide +kernel
theorem dX12_reckons_67 : decode cX12_reckons 67 = .ok (.iastore, 1) := by decide +kernel
theorem dX12_reckons_68 : decode cX12_reckons 68 = .ok (.iinc 3 1, 3) := by decide +kernel
theorem dX12_reckons_71 : decode cX12_reckons 71 = .ok (.iinc 2 1, 3) := by decide +kernel
theorem dX12_reckons_74 : decode cX12_reckons 74 = .ok (.goto 66, 3) := by decide +kernel
theorem dX12_reckons_77 : decode cX12_reckons 77 = .ok (.iload 4, 2) := by decide +kernel
theorem dX12_reckons_79 : decode cX12_reckons 79 = .ok (.iconst 3, 1) := by decide +kernel
theorem dX12_reckons_80 : decode cX12_reckons 80 = .ok (.if_icmp .ne 30, 3) := by decide +kernel
theorem dX12_reckons_83 : decode cX12_reckons 83 = .ok (.aload_n 0, 1) := by decide +kernel
theorem dX12_reckons_84 : decode cX12_reckons 84 = .ok (.getfield 57, 3) := by decide +kernel
theorem dX12_reckons_87 : decode cX12_reckons 87 = .ok (.iload_n 2, 1) := by decide +kernel
theorem dX12_reckons_88 : decode cX12_reckons 88 = .ok (.iconst 1, 1) := by decide +kernel
theorem dX12_reckons_89 : decode cX12_reckons 89 = .ok (.isub, 1) := by decide +kernel
theorem dX12_reckons_90 : decode cX12_reckons 90 = .ok (.aload_n 0, 1) := by decide +kernel
theorem dX12_reckons_91 : decode cX12_reckons 91 = .ok (.getfield 57, 3) := by decide +kernel
theorem dX12_reckons_94 : decode cX12_reckons 94 = .ok (.iload_n 2, 1) := by decide +kernel
theorem dX12_reckons_95 : decode cX12_reckons 95 = .ok (.iconst 1, 1) := by decide +kernel
theorem dX12_reckons_96 : decode cX12_reckons 96 = .ok (.isub, 1) := by decide +kernel
theorem dX12_reckons_97 : decode cX12_reckons 97 = .ok (.iaload, 1) := by decide +kernel
theorem dX12_reckons_98 : decode cX12_reckons 98 = .ok (.ifCond .ne 7, 3) := by decide +kernel
theorem dX12_reckons_101 : decode cX12_reckons 101 = .ok (.iconst 1, 1) := by decide +kernel
theorem dX12_reckons_102 : decode cX12_reckons 102 = .ok (.goto 4, 3) := by decide +kernel
theorem dX12_reckons_105 : decode cX12_reckons 105 = .ok (.iconst 0, 1) := by decide +kernel
theorem dX12_reckons_106 : decode cX12_reckons 106 = .ok (.iastore, 1) := by decide +kernel
theorem dX12_reckons_107 : decode cX12_reckons 107 = .ok (.goto 33, 3) := by decide +kernel
theorem dX12_reckons_110 : decode cX12_reckons 110 = .ok (.iinc 2 (-1), 3) := by decide +kernel
theorem dX12_reckons_113 : decode cX12_reckons 113 = .ok (.aload_n 0, 1) := by decide +kernel
theorem dX12_reckons_114 : decode cX12_reckons 114 = .ok (.getfield 57, 3) := by decide +kernel
theorem dX12_reckons_117 : decode cX12_reckons 117 = .ok (.iload_n 2, 1) := by decide +kernel
theorem dX12_reckons_118 : decode cX12_reckons 118 = .ok (.iconst 1, 1) := by decide +kernel
theorem dX12_reckons_119 : decode cX12_reckons 119 = .ok (.isub, 1) := by decide +kernel
theorem dX12_reckons_120 : decode cX12_reckons 120 = .ok (.iload 4, 2) := by decide +kernel
theorem dX12_reckons_122 : decode cX12_reckons 122 = .ok (.aload_n 0, 1) := by decide +kernel
theorem dX12_reckons_123 : decode cX12_reckons 123 = .ok (.getfield 57, 3) := by decide +kernel
theorem dX12_reckons_126 : decode cX12_reckons 126 = .ok (.iload_n 2, 1) := by decide +kernel
theorem dX12_reckons_127 : decode cX12_reckons 127 = .ok (.iconst 1, 1) := by decide +kernel
theorem dX12_reckons_128 : decode cX12_reckons 128 = .ok (.isub, 1) := by decide +kernel
theorem dX12_reckons_129 : decode cX12_reckons 129 = .ok (.iaload, 1) := by decide +kernel
theorem dX12_reckons_130 : decode cX12_reckons 130 = .ok (.aload_n 0, 1) := by decide +kernel
theorem dX12_reckons_131 : decode cX12_reckons 131 = .ok (.getfield 57, 3) := by decide +kernel
theorem dX12_reckons_134 : decode cX12_reckons 134 = .ok (.iload_n 2, 1) := by decide +kernel
theorem dX12_reckons_135 : decode cX12_reckons 135 = .ok (.iaload, 1) := by decide +kernel
theorem dX12_reckons_136 : decode cX12_reckons 136 = .ok (.invokestatic 284, 3) := by decide +kernel
theorem dX12_reckons_139 : decode cX12_reckons 139 = .ok (.iastore, 1) := by decide +kernel
theorem dX12_reckons_140 : decode cX12_reckons 140 = .ok (.goto (-136), 3) := by decide +kernel
theorem dX12_reckons_143 : decode cX12_reckons 143 = .ok (.aload_n 0, 1) := by decide +kernel
theorem dX12_reckons_144 : decode cX12_reckons 144 = .ok (.getfield 57, 3) := by decide +kernel
theorem dX12_reckons_147 : decode cX12_reckons 147 = .ok (.iconst 0, 1) := by decide +kernel
theorem dX12_reckons_148 : decode cX12_reckons 148 = .ok (.iaload, 1) := by decide +kernel
theorem dX12_reckons_149 : decode cX12_reckons 149 = .ok (.ireturn, 1) := by decide +kernel
theorem dX12_inHouse_0 : decode cX12_inHouse 0 = .ok (.iconst 0, 1) := by decide +kernel
theorem dX12_inHouse_1 : decode cX12_inHouse 1 = .ok (.istore_n 3, 1) := by decide +kernel
theorem dX12_inHouse_2 : decode cX12_inHouse 2 = .ok (.iconst 0, 1) := by decide +kernel
theorem dX12_inHouse_3 : decode cX12_inHouse 3 = .ok (.istore 4, 2) := by decide +kernel
theorem dX12_inHouse_5 : decode cX12_inHouse 5 = .ok (.iload 4, 2) := by decide +kernel
theorem dX12_inHouse_7 : decode cX12_inHouse 7 = .ok (.aload_n 0, 1) := by decide +kernel
theorem dX12_inHouse_8 : decode cX12_inHouse 8 = .ok (.getfield 264, 3) := by decide +kernel
theorem dX12_inHouse_11 : decode cX12_inHouse 11 = .ok (.if_icmp .ge 35, 3) := by decide +kernel
theorem dX12_inHouse_14 : decode cX12_inHouse 14 = .ok (.iload_n 3, 1) := by decide +kernel
theorem dX12_inHouse_15 : decode cX12_inHouse 15 = .ok (.aload_n 0, 1) := by decide +kernel
theorem dX12_inHouse_16 : decode cX12_inHouse 16 = .ok (.getfield 48, 3) := by decide +kernel
theorem dX12_inHouse_19 : decode cX12_inHouse 19 = .ok (.iload_n 1, 1) := by decide +kernel
theorem dX12_inHouse_20 : decode cX12_inHouse 20 = .ok (.iconst 2, 1) := by decide +kernel
theorem dX12_inHouse_21 : decode cX12_inHouse 21 = .ok (.iadd, 1) := by decide +kernel
theorem dX12_inHouse_22 : decode cX12_inHouse 22 = .ok (.iload 4, 2) := by decide +kernel
theorem dX12_inHouse_24 : decode cX12_inHouse 24 = .ok (.iadd, 1) := by decide +kernel
theorem dX12_inHouse_25 : decode cX12_inHouse 25 = .ok (.iaload, 1) := by decide +kernel
theorem dX12_inHouse_26 : decode cX12_inHouse 26 = .ok (.iload_n 2, 1) := by decide +kernel
theorem dX12_inHouse_27 : decode cX12_inHouse 27 = .ok (.if_icmp .ne 10, 3) := by decide +kernel
theorem dX12_inHouse_30 : decode cX12_inHouse 30 = .ok (.iconst 1, 1) := by decide +kernel
theorem dX12_inHouse_31 : decode cX12_inHouse 31 = .ok (.iload 4, 2) := by decide +kernel
theorem dX12_inHouse_33 : decode cX12_inHouse 33 = .ok (.ishl, 1) := by decide +kernel
theorem dX12_inHouse_34 : decode cX12_inHouse 34 = .ok (.goto 4, 3) := by decide +kernel
theorem dX12_inHouse_37 : decode cX12_inHouse 37 = .ok (.iconst 0, 1) := by decide +kernel
theorem dX12_inHouse_38 : decode cX12_inHouse 38 = .ok (.ior, 1) := by decide +kernel
theorem dX12_inHouse_39 : decode cX12_inHouse 39 = .ok (.istore_n 3, 1) := by decide +kernel
theorem dX12_inHouse_40 : decode cX12_inHouse 40 = .ok (.iinc 4 1, 3) := by decide +kernel
theorem dX12_inHouse_43 : decode cX12_inHouse 43 = .ok (.goto (-38), 3) := by decide +kernel
theorem dX12_inHouse_46 : decode cX12_inHouse 46 = .ok (.iload_n 3, 1) := by decide +kernel
theorem dX12_inHouse_47 : decode cX12_inHouse 47 = .ok (.ireturn, 1) := by decide +kernel
theorem dX12_sizeOf_0 : decode cX12_sizeOf 0 = .ok (.aload_n 0, 1) := by decide +kernel
theorem dX12_sizeOf_1 : decode cX12_sizeOf 1 = .ok (.iload_n 1, 1) := by decide +kernel
theorem dX12_sizeOf_2 : decode cX12_sizeOf 2 = .ok (.iload_n 2, 1) := by decide +kernel
theorem dX12_sizeOf_3 : decode cX12_sizeOf 3 = .ok (.invokevirtual 288, 3) := by decide +kernel
theorem dX12_sizeOf_6 : decode cX12_sizeOf 6 = .ok (.invokestatic 291, 3) := by decide +kernel
theorem dX12_sizeOf_9 : decode cX12_sizeOf 9 = .ok (.ireturn, 1) := by decide +kernel
theorem dX12_whoAt_0 : decode cX12_whoAt 0 = .ok (.iconst 0, 1) := by decide +kernel
theorem dX12_whoAt_1 : decode cX12_whoAt 1 = .ok (.istore 4, 2) := by decide +kernel
theorem dX12_whoAt_3 : decode cX12_whoAt 3 = .ok (.iload 4, 2) := by decide +kernel
theorem dX12_whoAt_5 : decode cX12_whoAt 5 = .ok (.aload_n 0, 1) := by decide +kernel
theorem dX12_whoAt_6 : decode cX12_whoAt 6 = .ok (.getfield 264, 3) := by decide +kernel
theorem dX12_whoAt_9 : decode cX12_whoAt 9 = .ok (.if_icmp .ge 43, 3) := by decide +kernel
theorem dX12_whoAt_12 : decode cX12_whoAt 12 = .ok (.aload_n 0, 1) := by decide +kernel
theorem dX12_whoAt_13 : decode cX12_whoAt 13 = .ok (.getfield 48, 3) := by decide +kernel
theorem dX12_whoAt_16 : decode cX12_whoAt 16 = .ok (.iload_n 1, 1) := by decide +kernel
theorem dX12_whoAt_17 : decode cX12_whoAt 17 = .ok (.iconst 2, 1) := by decide +kernel
theorem dX12_whoAt_18 : decode cX12_whoAt 18 = .ok (.iadd, 1) := by decide +kernel
theorem dX12_whoAt_19 : decode cX12_whoAt 19 = .ok (.iload 4, 2) := by decide +kernel
theorem dX12_whoAt_21 : decode cX12_whoAt 21 = .ok (.iadd, 1) := by decide +kernel
theorem dX12_whoAt_22 : decode cX12_whoAt 22 = .ok (.iaload, 1) := by decide +kernel
theorem dX12_whoAt_23 : decode cX12_whoAt 23 = .ok (.iload_n 2, 1) := by decide +kernel
theorem dX12_whoAt_24 : decode cX12_whoAt 24 = .ok (.if_icmp .ne 22, 3) := by decide +kernel
theorem dX12_whoAt_27 : decode cX12_whoAt 27 = .ok (.aload_n 0, 1) := by decide +kernel
theorem dX12_whoAt_28 : decode cX12_whoAt 28 = .ok (.getfield 48, 3) := by decide +kernel
theorem dX12_whoAt_31 : decode cX12_whoAt 31 = .ok (.iload_n 1, 1) := by decide +kernel
theorem dX12_whoAt_32 : decode cX12_whoAt 32 = .ok (.bipush 14, 2) := by decide +kernel
theorem dX12_whoAt_34 : decode cX12_whoAt 34 = .ok (.iadd, 1) := by decide +kernel
theorem dX12_whoAt_35 : decode cX12_whoAt 35 = .ok (.iload 4, 2) := by decide +kernel
theorem dX12_whoAt_37 : decode cX12_whoAt 37 = .ok (.iadd, 1) := by decide +kernel
theorem dX12_whoAt_38 : decode cX12_whoAt 38 = .ok (.iaload, 1) := by decide +kernel
theorem dX12_whoAt_39 : decode cX12_whoAt 39 = .ok (.iload_n 3, 1) := by decide +kernel
theorem dX12_whoAt_40 : decode cX12_whoAt 40 = .ok (.if_icmp .ne 6, 3) := by decide +kernel
theorem dX12_whoAt_43 : decode cX12_whoAt 43 = .ok (.iload 4, 2) := by decide +kernel
theorem dX12_whoAt_45 : decode cX12_whoAt 45 = .ok (.ireturn, 1) := by decide +kernel
theorem dX12_whoAt_46 : decode cX12_whoAt 46 = .ok (.iinc 4 1, 3) := by decide +kernel
theorem dX12_whoAt_49 : decode cX12_whoAt 49 = .ok (.goto (-46), 3) := by decide +kernel
theorem dX12_whoAt_52 : decode cX12_whoAt 52 = .ok (.iconst (-1), 1) := by decide +kernel
theorem dX12_whoAt_53 : decode cX12_whoAt 53 = .ok (.ireturn, 1) := by decide +kernel
theorem dX12_ranksOf_0 : decode cX12_ranksOf 0 = .ok (.iconst 0, 1) := by decide +kernel
theorem dX12_ranksOf_1 : decode cX12_ranksOf 1 = .ok (.istore_n 3, 1) := by decide +kernel
theorem dX12_ranksOf_2 : decode cX12_ranksOf 2 = .ok (.iconst 0, 1) := by decide +kernel
theorem dX12_ranksOf_3 : decode cX12_ranksOf 3 = .ok (.istore 4, 2) := by decide +kernel
theorem dX12_ranksOf_5 : decode cX12_ranksOf 5 = .ok (.iload 4, 2) := by decide +kernel
theorem dX12_ranksOf_7 : decode cX12_ranksOf 7 = .ok (.aload_n 0, 1) := by decide +kernel
theorem dX12_ranksOf_8 : decode cX12_ranksOf 8 = .ok (.getfield 264, 3) := by decide +kernel
theorem dX12_ranksOf_11 : decode cX12_ranksOf 11 = .ok (.if_icmp .ge 43, 3) := by decide +kernel
theorem dX12_ranksOf_14 : decode cX12_ranksOf 14 = .ok (.iload_n 3, 1) := by decide +kernel
theorem dX12_ranksOf_15 : decode cX12_ranksOf 15 = .ok (.aload_n 0, 1) := by decide +kernel
theorem dX12_ranksOf_16 : decode cX12_ranksOf 16 = .ok (.getfield 48, 3) := by decide +kernel
theorem dX12_ranksOf_19 : decode cX12_ranksOf 19 = .ok (.iload_n 1, 1) := by decide +kernel
theorem dX12_ranksOf_20 : decode cX12_ranksOf 20 = .ok (.iconst 2, 1) := by decide +kernel
theorem dX12_ranksOf_21 : decode cX12_ranksOf 21 = .ok (.iadd, 1) := by decide +kernel
theorem dX12_ranksOf_22 : decode cX12_ranksOf 22 = .ok (.iload 4, 2) := by decide +kernel
theorem dX12_ranksOf_24 : decode cX12_ranksOf 24 = .ok (.iadd, 1) := by decide +kernel
theorem dX12_ranksOf_25 : decode cX12_ranksOf 25 = .ok (.iaload, 1) := by decide +kernel
theorem dX12_ranksOf_26 : decode cX12_ranksOf 26 = .ok (.iload_n 2, 1) := by decide +kernel
theorem dX12_ranksOf_27 : decode cX12_ranksOf 27 = .ok (.if_icmp .ne 18, 3) := by decide +kernel
theorem dX12_ranksOf_30 : decode cX12_ranksOf 30 = .ok (.aload_n 0, 1) := by decide +kernel
theorem dX12_ranksOf_31 : decode cX12_ranksOf 31 = .ok (.getfield 48, 3) := by decide +kernel
theorem dX12_ranksOf_34 : decode cX12_ranksOf 34 = .ok (.iload_n 1, 1) := by decide +kernel
theorem dX12_ranksOf_35 : decode cX12_ranksOf 35 = .ok (.bipush 50, 2) := by decide +kernel
theorem dX12_ranksOf_37 : decode cX12_ranksOf 37 = .ok (.iadd, 1) := by decide +kernel
theorem dX12_ranksOf_38 : decode cX12_ranksOf 38 = .ok (.iload 4, 2) := by decide +kernel
theorem dX12_ranksOf_40 : decode cX12_ranksOf 40 = .ok (.iadd, 1) := by decide +kernel
theorem dX12_ranksOf_41 : decode cX12_ranksOf 41 = .ok (.iaload, 1) := by decide +kernel
theorem dX12_ranksOf_42 : decode cX12_ranksOf 42 = .ok (.goto 4, 3) := by decide +kernel
theorem dX12_ranksOf_45 : decode cX12_ranksOf 45 = .ok (.iconst 0, 1) := by decide +kernel
theorem dX12_ranksOf_46 : decode cX12_ranksOf 46 = .ok (.iadd, 1) := by decide +kernel
theorem dX12_ranksOf_47 : decode cX12_ranksOf 47 = .ok (.istore_n 3, 1) := by decide +kernel
theorem dX12_ranksOf_48 : decode cX12_ranksOf 48 = .ok (.iinc 4 1, 3) := by decide +kernel
theorem dX12_ranksOf_51 : decode cX12_ranksOf 51 = .ok (.goto (-46), 3) := by decide +kernel
theorem dX12_ranksOf_54 : decode cX12_ranksOf 54 = .ok (.iload_n 3, 1) := by decide +kernel
theorem dX12_ranksOf_55 : decode cX12_ranksOf 55 = .ok (.ireturn, 1) := by decide +kernel
theorem dX12_staysIn_0 : decode cX12_staysIn 0 = .ok (.aload_n 0, 1) := by decide +kernel
theorem dX12_staysIn_1 : decode cX12_staysIn 1 = .ok (.getfield 294, 3) := by decide +kernel
theorem dX12_staysIn_4 : decode cX12_staysIn 4 = .ok (.ifCond .eq 5, 3) := by decide +kernel
theorem dX12_staysIn_7 : decode cX12_staysIn 7 = .ok (.iconst 1, 1) := by decide +kernel
theorem dX12_staysIn_8 : decode cX12_staysIn 8 = .ok (.ireturn, 1) := by decide +kernel
theorem dX12_staysIn_9 : decode cX12_staysIn 9 = .ok (.aload_n 0, 1) := by decide +kernel
theorem dX12_staysIn_10 : decode cX12_staysIn 10 = .ok (.getfield 13, 3) := by decide +kernel
theorem dX12_staysIn_13 : decode cX12_staysIn 13 = .ok (.iconst (-1), 1) := by decide +kernel
theorem dX12_staysIn_14 : decode cX12_staysIn 14 = .ok (.if_icmp .ne 5, 3) := by decide +kernel
theorem dX12_staysIn_17 : decode cX12_staysIn 17 = .ok (.iconst 0, 1) := by decide +kernel
theorem dX12_staysIn_18 : decode cX12_staysIn 18 = .ok (.ireturn, 1) := by decide +kernel
theorem dX12_staysIn_19 : decode cX12_staysIn 19 = .ok (.aload_n 0, 1) := by decide +kernel
theorem dX12_staysIn_20 : decode cX12_staysIn 20 = .ok (.getfield 54, 3) := by decide +kernel
theorem dX12_staysIn_23 : decode cX12_staysIn 23 = .ok (.iconst 4, 1) := by decide +kernel
theorem dX12_staysIn_24 : decode cX12_staysIn 24 = .ok (.aload_n 0, 1) := by decide +kernel
theorem dX12_staysIn_25 : decode cX12_staysIn 25 = .ok (.iload_n 1, 1) := by decide +kernel
theorem dX12_staysIn_26 : decode cX12_staysIn 26 = .ok (.iload_n 2, 1) := by decide +kernel
theorem dX12_staysIn_27 : decode cX12_staysIn 27 = .ok (.invokevirtual 297, 3) := by decide +kernel
theorem dX12_staysIn_30 : decode cX12_staysIn 30 = .ok (.iastore, 1) := by decide +kernel
theorem dX12_staysIn_31 : decode cX12_staysIn 31 = .ok (.aload_n 0, 1) := by decide +kernel
theorem dX12_staysIn_32 : decode cX12_staysIn 32 = .ok (.getfield 54, 3) := by decide +kernel
theorem dX12_staysIn_35 : decode cX12_staysIn 35 = .ok (.iconst 5, 1) := by decide +kernel
theorem dX12_staysIn_36 : decode cX12_staysIn 36 = .ok (.aload_n 0, 1) := by decide +kernel
theorem dX12_staysIn_37 : decode cX12_staysIn 37 = .ok (.getfield 48, 3) := by decide +kernel
theorem dX12_staysIn_40 : decode cX12_staysIn 40 = .ok (.iload_n 1, 1) := by decide +kernel
theorem dX12_staysIn_41 : decode cX12_staysIn 41 = .ok (.iconst 0, 1) := by decide +kernel
theorem dX12_staysIn_42 : decode cX12_staysIn 42 = .ok (.iadd, 1) := by decide +kernel
theorem dX12_staysIn_43 : decode cX12_staysIn 43 = .ok (.iaload, 1) := by decide +kernel
theorem dX12_staysIn_44 : decode cX12_staysIn 44 = .ok (.iastore, 1) := by decide +kernel
theorem dX12_staysIn_45 : decode cX12_staysIn 45 = .ok (.aload_n 0, 1) := by decide +kernel
theorem dX12_staysIn_46 : decode cX12_staysIn 46 = .ok (.getfield 54, 3) := by decide +kernel
theorem dX12_staysIn_49 : decode cX12_staysIn 49 = .ok (.bipush 6, 2) := by decide +kernel
theorem dX12_staysIn_51 : decode cX12_staysIn 51 = .ok (.iload_n 2, 1) := by decide +kernel
theorem dX12_staysIn_52 : decode cX12_staysIn 52 = .ok (.iastore, 1) := by decide +kernel
theorem dX12_staysIn_53 : decode cX12_staysIn 53 = .ok (.aload_n 0, 1) := by decide +kernel
theorem dX12_staysIn_54 : decode cX12_staysIn 54 = .ok (.getfield 54, 3) := by decide +kernel
theorem dX12_staysIn_57 : decode cX12_staysIn 57 = .ok (.bipush 7, 2) := by decide +kernel
theorem dX12_staysIn_59 : decode cX12_staysIn 59 = .ok (.aload_n 0, 1) := by decide +kernel
theorem dX12_staysIn_60 : decode cX12_staysIn 60 = .ok (.iload_n 1, 1) := by decide +kernel
theorem dX12_staysIn_61 : decode cX12_staysIn 61 = .ok (.iload_n 2, 1) := by decide +kernel
theorem dX12_staysIn_62 : decode cX12_staysIn 62 = .ok (.invokevirtual 300, 3) := by decide +kernel
theorem dX12_staysIn_65 : decode cX12_staysIn 65 = .ok (.iastore, 1) := by decide +kernel
theorem dX12_staysIn_66 : decode cX12_staysIn 66 = .ok (.aload_n 0, 1) := by decide +kernel
theorem dX12_staysIn_67 : decode cX12_staysIn 67 = .ok (.getfield 54, 3) := by decide +kernel
theorem dX12_staysIn_70 : decode cX12_staysIn 70 = .ok (.bipush 8, 2) := by decide +kernel
theorem dX12_staysIn_72 : decode cX12_staysIn 72 = .ok (.aload_n 0, 1) := by decide +kernel
theorem dX12_staysIn_73 : decode cX12_staysIn 73 = .ok (.getfield 48, 3) := by decide +kernel
theorem dX12_staysIn_76 : decode cX12_staysIn 76 = .ok (.iload_n 1, 1) := by decide +kernel
theorem dX12_staysIn_77 : decode cX12_staysIn 77 = .ok (.bipush 62, 2) := by decide +kernel
theorem dX12_staysIn_79 : decode cX12_staysIn 79 = .ok (.iadd, 1) := by decide +kernel
theorem dX12_staysIn_80 : decode cX12_staysIn 80 = .ok (.iload_n 2, 1) := by decide +kernel
theorem dX12_staysIn_81 : decode cX12_staysIn 81 = .ok (.iadd, 1) := by decide +kernel
theorem dX12_staysIn_82 : decode cX12_staysIn 82 = .ok (.iaload, 1) := by decide +kernel
theorem dX12_staysIn_83 : decode cX12_staysIn 83 = .ok (.iastore, 1) := by decide +kernel
theorem dX12_staysIn_84 : decode cX12_staysIn 84 = .ok (.aload_n 0, 1) := by decide +kernel
theorem dX12_staysIn_85 : decode cX12_staysIn 85 = .ok (.aload_n 0, 1) := by decide +kernel
theorem dX12_staysIn_86 : decode cX12_staysIn 86 = .ok (.getfield 13, 3) := by decide +kernel
theorem dX12_staysIn_89 : decode cX12_staysIn 89 = .ok (.invokevirtual 303, 3) := by decide +kernel
theorem dX12_staysIn_92 : decode cX12_staysIn 92 = .ok (.ifCond .le 7, 3) := by decide +kernel
theorem dX12_staysIn_95 : decode cX12_staysIn 95 = .ok (.iconst 1, 1) := by decide +kernel
theorem dX12_staysIn_96 : decode cX12_staysIn 96 = .ok (.goto 4, 3) := by decide +kernel
theorem dX12_staysIn_99 : decode cX12_staysIn 99 = .ok (.iconst 0, 1) := by decide +kernel
theorem dX12_staysIn_100 : decode cX12_staysIn 100 = .ok (.ireturn, 1) := by decide +kernel
theorem dX12_picksBy_0 : decode cX12_picksBy 0 = .ok (.aload_n 0, 1) := by decide +kernel
theorem dX12_picksBy_1 : decode cX12_picksBy 1 = .ok (.getfield 9, 3) := by decide +kernel
theorem dX12_picksBy_4 : decode cX12_picksBy 4 = .ok (.iconst (-1), 1) := by decide +kernel
theorem dX12_picksBy_5 : decode cX12_picksBy 5 = .ok (.if_icmp .ne 15, 3) := by decide +kernel
theorem dX12_picksBy_8 : decode cX12_picksBy 8 = .ok (.aload_n 0, 1) := by decide +kernel
theorem dX12_picksBy_9 : decode cX12_picksBy 9 = .ok (.getfield 48, 3) := by decide +kernel
theorem dX12_picksBy_12 : decode cX12_picksBy 12 = .ok (.iload_n 1, 1) := by decide +kernel
theorem dX12_picksBy_13 : decode cX12_picksBy 13 = .ok (.bipush 14, 2) := by decide +kernel
theorem dX12_picksBy_15 : decode cX12_picksBy 15 = .ok (.iadd, 1) := by decide +kernel
theorem dX12_picksBy_16 : decode cX12_picksBy 16 = .ok (.iload_n 2, 1) := by decide +kernel
theorem dX12_picksBy_17 : decode cX12_picksBy 17 = .ok (.iadd, 1) := by decide +kernel
theorem dX12_picksBy_18 : decode cX12_picksBy 18 = .ok (.iaload, 1) := by decide +kernel
theorem dX12_picksBy_19 : decode cX12_picksBy 19 = .ok (.ireturn, 1) := by decide +kernel
theorem dX12_picksBy_20 : decode cX12_picksBy 20 = .ok (.aload_n 0, 1) := by decide +kernel
theorem dX12_picksBy_21 : decode cX12_picksBy 21 = .ok (.getfield 54, 3) := by decide +kernel
theorem dX12_picksBy_24 : decode cX12_picksBy 24 = .ok (.iconst 0, 1) := by decide +kernel
theorem dX12_picksBy_25 : decode cX12_picksBy 25 = .ok (.aload_n 0, 1) := by decide +kernel
theorem dX12_picksBy_26 : decode cX12_picksBy 26 = .ok (.getfield 48, 3) := by decide +kernel
theorem dX12_picksBy_29 : decode cX12_picksBy 29 = .ok (.iload_n 1, 1) := by decide +kernel
theorem dX12_picksBy_30 : decode cX12_picksBy 30 = .ok (.bipush 50, 2) := by decide +kernel
theorem dX12_picksBy_32 : decode cX12_picksBy 32 = .ok (.iadd, 1) := by decide +kernel
theorem dX12_picksBy_33 : decode cX12_picksBy 33 = .ok (.iload_n 2, 1) := by decide +kernel
theorem dX12_picksBy_34 : decode cX12_picksBy 34 = .ok (.iadd, 1) := by decide +kernel
theorem dX12_picksBy_35 : decode cX12_picksBy 35 = .ok (.iaload, 1) := by decide +kernel
theorem dX12_picksBy_36 : decode cX12_picksBy 36 = .ok (.iastore, 1) := by decide +kernel
theorem dX12_picksBy_37 : decode cX12_picksBy 37 = .ok (.aload_n 0, 1) := by decide +kernel
theorem dX12_picksBy_38 : decode cX12_picksBy 38 = .ok (.getfield 54, 3) := by decide +kernel
theorem dX12_picksBy_41 : decode cX12_picksBy 41 = .ok (.iconst 1, 1) := by decide +kernel
theorem dX12_picksBy_42 : decode cX12_picksBy 42 = .ok (.aload_n 0, 1) := by decide +kernel
theorem dX12_picksBy_43 : decode cX12_picksBy 43 = .ok (.getfield 48, 3) := by decide +kernel
theorem dX12_picksBy_46 : decode cX12_picksBy 46 = .ok (.iload_n 1, 1) := by decide +kernel
theorem dX12_picksBy_47 : decode cX12_picksBy 47 = .ok (.bipush 14, 2) := by decide +kernel
theorem dX12_picksBy_49 : decode cX12_picksBy 49 = .ok (.iadd, 1) := by decide +kernel
theorem dX12_picksBy_50 : decode cX12_picksBy 50 = .ok (.iload_n 2, 1) := by decide +kernel
theorem dX12_picksBy_51 : decode cX12_picksBy 51 = .ok (.iadd, 1) := by decide +kernel
theorem dX12_picksBy_52 : decode cX12_picksBy 52 = .ok (.iaload, 1) := by decide +kernel
theorem dX12_picksBy_53 : decode cX12_picksBy 53 = .ok (.iastore, 1) := by decide +kernel
theorem dX12_picksBy_54 : decode cX12_picksBy 54 = .ok (.aload_n 0, 1) := by decide +kernel
theorem dX12_picksBy_55 : decode cX12_picksBy 55 = .ok (.getfield 54, 3) := by decide +kernel
theorem dX12_picksBy_58 : decode cX12_picksBy 58 = .ok (.iconst 2, 1) := by decide +kernel
theorem dX12_picksBy_59 : decode cX12_picksBy 59 = .ok (.aload_n 0, 1) := by decide +kernel
theorem dX12_picksBy_60 : decode cX12_picksBy 60 = .ok (.getfield 48, 3) := by decide +kernel
theorem dX12_picksBy_63 : decode cX12_picksBy 63 = .ok (.iload_n 1, 1) := by decide +kernel
theorem dX12_picksBy_64 : decode cX12_picksBy 64 = .ok (.bipush 26, 2) := by decide +kernel
theorem dX12_picksBy_66 : decode cX12_picksBy 66 = .ok (.iadd, 1) := by decide +kernel
theorem dX12_picksBy_67 : decode cX12_picksBy 67 = .ok (.iload_n 2, 1) := by decide +kernel
theorem dX12_picksBy_68 : decode cX12_picksBy 68 = .ok (.iadd, 1) := by decide +kernel
theorem dX12_picksBy_69 : decode cX12_picksBy 69 = .ok (.iaload, 1) := by decide +kernel
theorem dX12_picksBy_70 : decode cX12_picksBy 70 = .ok (.iastore, 1) := by decide +kernel
theorem dX12_picksBy_71 : decode cX12_picksBy 71 = .ok (.aload_n 0, 1) := by decide +kernel
theorem dX12_picksBy_72 : decode cX12_picksBy 72 = .ok (.getfield 54, 3) := by decide +kernel
theorem dX12_picksBy_75 : decode cX12_picksBy 75 = .ok (.iconst 3, 1) := by decide +kernel
theorem dX12_picksBy_76 : decode cX12_picksBy 76 = .ok (.aload_n 0, 1) := by decide +kernel
theorem dX12_picksBy_77 : decode cX12_picksBy 77 = .ok (.getfield 48, 3) := by decide +kernel
theorem dX12_picksBy_80 : decode cX12_picksBy 80 = .ok (.iload_n 1, 1) := by decide +kernel
theorem dX12_picksBy_81 : decode cX12_picksBy 81 = .ok (.bipush 38, 2) := by decide +kernel
theorem dX12_picksBy_83 : decode cX12_picksBy 83 = .ok (.iadd, 1) := by decide +kernel
theorem dX12_picksBy_84 : decode cX12_picksBy 84 = .ok (.iload_n 2, 1) := by decide +kernel
theorem dX12_picksBy_85 : decode cX12_picksBy 85 = .ok (.iadd, 1) := by decide +kernel
theorem dX12_picksBy_86 : decode cX12_picksBy 86 = .ok (.iaload, 1) := by decide +kernel
theorem dX12_picksBy_87 : decode cX12_picksBy 87 = .ok (.iastore, 1) := by decide +kernel
theorem dX12_picksBy_88 : decode cX12_picksBy 88 = .ok (.aload_n 0, 1) := by decide +kernel
theorem dX12_picksBy_89 : decode cX12_picksBy 89 = .ok (.getfield 54, 3) := by decide +kernel
theorem dX12_picksBy_92 : decode cX12_picksBy 92 = .ok (.iconst 4, 1) := by decide +kernel
theorem dX12_picksBy_93 : decode cX12_picksBy 93 = .ok (.aload_n 0, 1) := by decide +kernel
theorem dX12_picksBy_94 : decode cX12_picksBy 94 = .ok (.iload_n 1, 1) := by decide +kernel
theorem dX12_picksBy_95 : decode cX12_picksBy 95 = .ok (.aload_n 0, 1) := by decide +kernel
theorem dX12_picksBy_96 : decode cX12_picksBy 96 = .ok (.getfield 48, 3) := by decide +kernel
theorem dX12_picksBy_99 : decode cX12_picksBy 99 = .ok (.iload_n 1, 1) := by decide +kernel
theorem dX12_picksBy_100 : decode cX12_picksBy 100 = .ok (.iconst 2, 1) := by decide +kernel
theorem dX12_picksBy_101 : decode cX12_picksBy 101 = .ok (.iadd, 1) := by decide +kernel
theorem dX12_picksBy_102 : decode cX12_picksBy 102 = .ok (.iload_n 2, 1) := by decide +kernel
theorem dX12_picksBy_103 : decode cX12_picksBy 103 = .ok (.iadd, 1) := by decide +kernel
theorem dX12_picksBy_104 : decode cX12_picksBy 104 = .ok (.iaload, 1) := by decide +kernel
theorem dX12_picksBy_105 : decode cX12_picksBy 105 = .ok (.invokevirtual 297, 3) := by decide +kernel
theorem dX12_picksBy_108 : decode cX12_picksBy 108 = .ok (.iastore, 1) := by decide +kernel
theorem dX12_picksBy_109 : decode cX12_picksBy 109 = .ok (.aload_n 0, 1) := by decide +kernel
theorem dX12_picksBy_110 : decode cX12_picksBy 110 = .ok (.getfield 54, 3) := by decide +kernel
theorem dX12_picksBy_113 : decode cX12_picksBy 113 = .ok (.iconst 5, 1) := by decide +kernel
theorem dX12_picksBy_114 : decode cX12_picksBy 114 = .ok (.aload_n 0, 1) := by decide +kernel
theorem dX12_picksBy_115 : decode cX12_picksBy 115 = .ok (.getfield 48, 3) := by decide +kernel
theorem dX12_picksBy_118 : decode cX12_picksBy 118 = .ok (.iload_n 1, 1) := by decide +kernel
theorem dX12_picksBy_119 : decode cX12_picksBy 119 = .ok (.iconst 0, 1) := by decide +kernel
theorem dX12_picksBy_120 : decode cX12_picksBy 120 = .ok (.iadd, 1) := by decide +kernel
theorem dX12_picksBy_121 : decode cX12_picksBy 121 = .ok (.iaload, 1) := by decide +kernel
theorem dX12_picksBy_122 : decode cX12_picksBy 122 = .ok (.iastore, 1) := by decide +kernel
theorem dX12_picksBy_123 : decode cX12_picksBy 123 = .ok (.aload_n 0, 1) := by decide +kernel
theorem dX12_picksBy_124 : decode cX12_picksBy 124 = .ok (.aload_n 0, 1) := by decide +kernel
theorem dX12_picksBy_125 : decode cX12_picksBy 125 = .ok (.getfield 9, 3) := by decide +kernel
theorem dX12_picksBy_128 : decode cX12_picksBy 128 = .ok (.invokevirtual 303, 3) := by decide +kernel
theorem dX12_picksBy_131 : decode cX12_picksBy 131 = .ok (.ireturn, 1) := by decide +kernel
theorem dX12_goerOf_0 : decode cX12_goerOf 0 = .ok (.aload_n 0, 1) := by decide +kernel
theorem dX12_goerOf_1 : decode cX12_goerOf 1 = .ok (.iload_n 1, 1) := by decide +kernel
theorem dX12_goerOf_2 : decode cX12_goerOf 2 = .ok (.iload_n 2, 1) := by decide +kernel
theorem dX12_goerOf_3 : decode cX12_goerOf 3 = .ok (.invokevirtual 306, 3) := by decide +kernel
theorem dX12_goerOf_6 : decode cX12_goerOf 6 = .ok (.ifCond .eq 5, 3) := by decide +kernel
theorem dX12_goerOf_9 : decode cX12_goerOf 9 = .ok (.iconst (-1), 1) := by decide +kernel
theorem dX12_goerOf_10 : decode cX12_goerOf 10 = .ok (.ireturn, 1) := by decide +kernel
theorem dX12_goerOf_11 : decode cX12_goerOf 11 = .ok (.iconst (-1), 1) := by decide +kernel
theorem dX12_goerOf_12 : decode cX12_goerOf 12 = .ok (.istore_n 3, 1) := by decide +kernel
theorem dX12_goerOf_13 : decode cX12_goerOf 13 = .ok (.iconst 0, 1) := by decide +kernel
theorem dX12_goerOf_14 : decode cX12_goerOf 14 = .ok (.istore 4, 2) := by decide +kernel
theorem dX12_goerOf_16 : decode cX12_goerOf 16 = .ok (.aload_n 0, 1) := by decide +kernel
theorem dX12_goerOf_17 : decode cX12_goerOf 17 = .ok (.iload_n 1, 1) := by decide +kernel
theorem dX12_goerOf_18 : decode cX12_goerOf 18 = .ok (.iload_n 2, 1) := by decide +kernel
theorem dX12_goerOf_19 : decode cX12_goerOf 19 = .ok (.invokevirtual 297, 3) := by decide +kernel
theorem dX12_goerOf_22 : decode cX12_goerOf 22 = .ok (.istore 5, 2) := by decide +kernel
theorem dX12_goerOf_24 : decode cX12_goerOf 24 = .ok (.iconst 0, 1) := by decide +kernel
theorem dX12_goerOf_25 : decode cX12_goerOf 25 = .ok (.istore 6, 2) := by decide +kernel
theorem dX12_goerOf_27 : decode cX12_goerOf 27 = .ok (.iload 6, 2) := by decide +kernel
theorem dX12_goerOf_29 : decode cX12_goerOf 29 = .ok (.iload 5, 2) := by decide +kernel
theorem dX12_goerOf_31 : decode cX12_goerOf 31 = .ok (.if_icmp .ge 66, 3) := by decide +kernel
theorem dX12_goerOf_34 : decode cX12_goerOf 34 = .ok (.aload_n 0, 1) := by decide +kernel
theorem dX12_goerOf_35 : decode cX12_goerOf 35 = .ok (.iload_n 1, 1) := by decide +kernel
theorem dX12_goerOf_36 : decode cX12_goerOf 36 = .ok (.iload_n 2, 1) := by decide +kernel
theorem dX12_goerOf_37 : decode cX12_goerOf 37 = .ok (.iload 6, 2) := by decide +kernel
theorem dX12_goerOf_39 : decode cX12_goerOf 39 = .ok (.invokevirtual 310, 3) := by decide +kernel
theorem dX12_goerOf_42 : decode cX12_goerOf 42 = .ok (.istore 7, 2) := by decide +kernel
theorem dX12_goerOf_44 : decode cX12_goerOf 44 = .ok (.aload_n 0, 1) := by decide +kernel
theorem dX12_goerOf_45 : decode cX12_goerOf 45 = .ok (.getfield 313, 3) := by decide +kernel
theorem dX12_goerOf_48 : decode cX12_goerOf 48 = .ok (.iload 7, 2) := by decide +kernel
theorem dX12_goerOf_50 : decode cX12_goerOf 50 = .ok (.ishr, 1) := by decide +kernel
theorem dX12_goerOf_51 : decode cX12_goerOf 51 = .ok (.iconst 1, 1) := by decide +kernel
theorem dX12_goerOf_52 : decode cX12_goerOf 52 = .ok (.iand, 1) := by decide +kernel
theorem dX12_goerOf_53 : decode cX12_goerOf 53 = .ok (.iconst 1, 1) := by decide +kernel
theorem dX12_goerOf_54 : decode cX12_goerOf 54 = .ok (.if_icmp .ne 6, 3) := by decide +kernel
theorem dX12_goerOf_57 : decode cX12_goerOf 57 = .ok (.goto 34, 3) := by decide +kernel
theorem dX12_goerOf_60 : decode cX12_goerOf 60 = .ok (.aload_n 0, 1) := by decide +kernel
theorem dX12_goerOf_61 : decode cX12_goerOf 61 = .ok (.iload_n 1, 1) := by decide +kernel
