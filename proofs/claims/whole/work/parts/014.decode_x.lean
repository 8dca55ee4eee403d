theorem dX11_house_128 : decode cX11_house 128 = .ok (.new 188, 3) := by decide +kernel
theorem dX11_house_131 : decode cX11_house 131 = .ok (.dup, 1) := by decide +kernel
theorem dX11_house_132 : decode cX11_house 132 = .ok (.ldc 244, 2) := by decide +kernel
theorem dX11_house_134 : decode cX11_house 134 = .ok (.invokespecial 192, 3) := by decide +kernel
theorem dX11_house_137 : decode cX11_house 137 = .ok (.athrow, 1) := by decide +kernel
theorem dX11_evenings_0 : decode cX11_evenings 0 = .ok (.iload_n 1, 1) := by decide +kernel
theorem dX11_evenings_1 : decode cX11_evenings 1 = .ok (.iconst 1, 1) := by decide +kernel
theorem dX11_evenings_2 : decode cX11_evenings 2 = .ok (.if_icmp .lt 24, 3) := by decide +kernel
theorem dX11_evenings_5 : decode cX11_evenings 5 = .ok (.iload_n 1, 1) := by decide +kernel
theorem dX11_evenings_6 : decode cX11_evenings 6 = .ok (.bipush 20, 2) := by decide +kernel
theorem dX11_evenings_8 : decode cX11_evenings 8 = .ok (.if_icmp .gt 18, 3) := by decide +kernel
theorem dX11_evenings_11 : decode cX11_evenings 11 = .ok (.aload_n 0, 1) := by decide +kernel
theorem dX11_evenings_12 : decode cX11_evenings 12 = .ok (.getfield 48, 3) := by decide +kernel
theorem dX11_evenings_15 : decode cX11_evenings 15 = .ok (.getfield 161, 3) := by decide +kernel
theorem dX11_evenings_18 : decode cX11_evenings 18 = .ok (.iload_n 1, 1) := by decide +kernel
theorem dX11_evenings_19 : decode cX11_evenings 19 = .ok (.iadd, 1) := by decide +kernel
theorem dX11_evenings_20 : decode cX11_evenings 20 = .ok (.sipush 9999, 3) := by decide +kernel
theorem dX11_evenings_23 : decode cX11_evenings 23 = .ok (.if_icmp .le 9, 3) := by decide +kernel
theorem dX11_evenings_26 : decode cX11_evenings 26 = .ok (.aload_n 0, 1) := by decide +kernel
theorem dX11_evenings_27 : decode cX11_evenings 27 = .ok (.iconst 1, 1) := by decide +kernel
theorem dX11_evenings_28 : decode cX11_evenings 28 = .ok (.invokevirtual 246, 3) := by decide +kernel
theorem dX11_evenings_31 : decode cX11_evenings 31 = .ok (.ireturn, 1) := by decide +kernel
theorem dX11_evenings_32 : decode cX11_evenings 32 = .ok (.aload_n 0, 1) := by decide +kernel
theorem dX11_evenings_33 : decode cX11_evenings 33 = .ok (.getfield 64, 3) := by decide +kernel
theorem dX11_evenings_36 : decode cX11_evenings 36 = .ok (.aload_n 0, 1) := by decide +kernel
theorem dX11_evenings_37 : decode cX11_evenings 37 = .ok (.getfield 48, 3) := by decide +kernel
theorem dX11_evenings_40 : decode cX11_evenings 40 = .ok (.invokevirtual 249, 3) := by decide +kernel
theorem dX11_evenings_43 : decode cX11_evenings 43 = .ok (.aload_n 0, 1) := by decide +kernel
theorem dX11_evenings_44 : decode cX11_evenings 44 = .ok (.getfield 48, 3) := by decide +kernel
theorem dX11_evenings_47 : decode cX11_evenings 47 = .ok (.aload_n 0, 1) := by decide +kernel
theorem dX11_evenings_48 : decode cX11_evenings 48 = .ok (.getfield 57, 3) := by decide +kernel
theorem dX11_evenings_51 : decode cX11_evenings 51 = .ok (.iload_n 1, 1) := by decide +kernel
theorem dX11_evenings_52 : decode cX11_evenings 52 = .ok (.invokevirtual 252, 3) := by decide +kernel
theorem dX11_evenings_55 : decode cX11_evenings 55 = .ok (.invokevirtual 126, 3) := by decide +kernel
theorem dX11_evenings_58 : decode cX11_evenings 58 = .ok (.aload_n 0, 1) := by decide +kernel
theorem dX11_evenings_59 : decode cX11_evenings 59 = .ok (.getfield 57, 3) := by decide +kernel
theorem dX11_evenings_62 : decode cX11_evenings 62 = .ok (.invokevirtual 148, 3) := by decide +kernel
theorem dX11_evenings_65 : decode cX11_evenings 65 = .ok (.aload_n 0, 1) := by decide +kernel
theorem dX11_evenings_66 : decode cX11_evenings 66 = .ok (.getfield 48, 3) := by decide +kernel
theorem dX11_evenings_69 : decode cX11_evenings 69 = .ok (.getfield 161, 3) := by decide +kernel
theorem dX11_evenings_72 : decode cX11_evenings 72 = .ok (.ireturn, 1) := by decide +kernel
theorem dX11_move_0 : decode cX11_move 0 = .ok (.aload_n 0, 1) := by decide +kernel
theorem dX11_move_1 : decode cX11_move 1 = .ok (.iload_n 1, 1) := by decide +kernel
theorem dX11_move_2 : decode cX11_move 2 = .ok (.invokevirtual 193, 3) := by decide +kernel
theorem dX11_move_5 : decode cX11_move 5 = .ok (.aload_n 0, 1) := by decide +kernel
theorem dX11_move_6 : decode cX11_move 6 = .ok (.iload_n 2, 1) := by decide +kernel
theorem dX11_move_7 : decode cX11_move 7 = .ok (.invokevirtual 225, 3) := by decide +kernel
theorem dX11_move_10 : decode cX11_move 10 = .ok (.aload_n 0, 1) := by decide +kernel
theorem dX11_move_11 : decode cX11_move 11 = .ok (.getfield 48, 3) := by decide +kernel
theorem dX11_move_14 : decode cX11_move 14 = .ok (.getfield 196, 3) := by decide +kernel
theorem dX11_move_17 : decode cX11_move 17 = .ok (.iload_n 1, 1) := by decide +kernel
theorem dX11_move_18 : decode cX11_move 18 = .ok (.iaload, 1) := by decide +kernel
theorem dX11_move_19 : decode cX11_move 19 = .ok (.istore_n 3, 1) := by decide +kernel
theorem dX11_move_20 : decode cX11_move 20 = .ok (.iload_n 3, 1) := by decide +kernel
theorem dX11_move_21 : decode cX11_move 21 = .ok (.iload_n 2, 1) := by decide +kernel
theorem dX11_move_22 : decode cX11_move 22 = .ok (.if_icmp .ne 9, 3) := by decide +kernel
theorem dX11_move_25 : decode cX11_move 25 = .ok (.aload_n 0, 1) := by decide +kernel
theorem dX11_move_26 : decode cX11_move 26 = .ok (.iconst 1, 1) := by decide +kernel
theorem dX11_move_27 : decode cX11_move 27 = .ok (.invokevirtual 246, 3) := by decide +kernel
theorem dX11_move_30 : decode cX11_move 30 = .ok (.ireturn, 1) := by decide +kernel
theorem dX11_move_31 : decode cX11_move 31 = .ok (.aload_n 0, 1) := by decide +kernel
theorem dX11_move_32 : decode cX11_move 32 = .ok (.getfield 64, 3) := by decide +kernel
theorem dX11_move_35 : decode cX11_move 35 = .ok (.aload_n 0, 1) := by decide +kernel
theorem dX11_move_36 : decode cX11_move 36 = .ok (.getfield 48, 3) := by decide +kernel
theorem dX11_move_39 : decode cX11_move 39 = .ok (.invokevirtual 249, 3) := by decide +kernel
theorem dX11_move_42 : decode cX11_move 42 = .ok (.aload_n 0, 1) := by decide +kernel
theorem dX11_move_43 : decode cX11_move 43 = .ok (.getfield 48, 3) := by decide +kernel
theorem dX11_move_46 : decode cX11_move 46 = .ok (.iload_n 1, 1) := by decide +kernel
theorem dX11_move_47 : decode cX11_move 47 = .ok (.iload_n 2, 1) := by decide +kernel
theorem dX11_move_48 : decode cX11_move 48 = .ok (.invokevirtual 256, 3) := by decide +kernel
theorem dX11_move_51 : decode cX11_move 51 = .ok (.aload_n 0, 1) := by decide +kernel
theorem dX11_move_52 : decode cX11_move 52 = .ok (.getfield 57, 3) := by decide +kernel
theorem dX11_move_55 : decode cX11_move 55 = .ok (.invokevirtual 148, 3) := by decide +kernel
theorem dX11_move_58 : decode cX11_move 58 = .ok (.iload_n 3, 1) := by decide +kernel
theorem dX11_move_59 : decode cX11_move 59 = .ok (.ireturn, 1) := by decide +kernel
theorem dX11_found_0 : decode cX11_found 0 = .ok (.aload_n 0, 1) := by decide +kernel
theorem dX11_found_1 : decode cX11_found 1 = .ok (.iload_n 1, 1) := by decide +kernel
theorem dX11_found_2 : decode cX11_found 2 = .ok (.invokevirtual 193, 3) := by decide +kernel
theorem dX11_found_5 : decode cX11_found 5 = .ok (.aload_n 0, 1) := by decide +kernel
theorem dX11_found_6 : decode cX11_found 6 = .ok (.getfield 48, 3) := by decide +kernel
theorem dX11_found_9 : decode cX11_found 9 = .ok (.iload_n 1, 1) := by decide +kernel
theorem dX11_found_10 : decode cX11_found 10 = .ok (.invokevirtual 260, 3) := by decide +kernel
theorem dX11_found_13 : decode cX11_found 13 = .ok (.ifCond .eq 9, 3) := by decide +kernel
theorem dX11_found_16 : decode cX11_found 16 = .ok (.aload_n 0, 1) := by decide +kernel
theorem dX11_found_17 : decode cX11_found 17 = .ok (.iconst 1, 1) := by decide +kernel
theorem dX11_found_18 : decode cX11_found 18 = .ok (.invokevirtual 246, 3) := by decide +kernel
theorem dX11_found_21 : decode cX11_found 21 = .ok (.ireturn, 1) := by decide +kernel
theorem dX11_found_22 : decode cX11_found 22 = .ok (.aload_n 0, 1) := by decide +kernel
theorem dX11_found_23 : decode cX11_found 23 = .ok (.getfield 64, 3) := by decide +kernel
theorem dX11_found_26 : decode cX11_found 26 = .ok (.aload_n 0, 1) := by decide +kernel
theorem dX11_found_27 : decode cX11_found 27 = .ok (.getfield 48, 3) := by decide +kernel
theorem dX11_found_30 : decode cX11_found 30 = .ok (.invokevirtual 249, 3) := by decide +kernel
theorem dX11_found_33 : decode cX11_found 33 = .ok (.aload_n 0, 1) := by decide +kernel
theorem dX11_found_34 : decode cX11_found 34 = .ok (.getfield 48, 3) := by decide +kernel
theorem dX11_found_37 : decode cX11_found 37 = .ok (.iload_n 1, 1) := by decide +kernel
theorem dX11_found_38 : decode cX11_found 38 = .ok (.invokevirtual 264, 3) := by decide +kernel
theorem dX11_found_41 : decode cX11_found 41 = .ok (.aload_n 0, 1) := by decide +kernel
theorem dX11_found_42 : decode cX11_found 42 = .ok (.getfield 57, 3) := by decide +kernel
theorem dX11_found_45 : decode cX11_found 45 = .ok (.invokevirtual 148, 3) := by decide +kernel
theorem dX11_found_48 : decode cX11_found 48 = .ok (.aload_n 0, 1) := by decide +kernel
theorem dX11_found_49 : decode cX11_found 49 = .ok (.getfield 48, 3) := by decide +kernel
theorem dX11_found_52 : decode cX11_found 52 = .ok (.getfield 158, 3) := by decide +kernel
theorem dX11_found_55 : decode cX11_found 55 = .ok (.ireturn, 1) := by decide +kernel
theorem dX11_join_0 : decode cX11_join 0 = .ok (.aload_n 0, 1) := by decide +kernel
theorem dX11_join_1 : decode cX11_join 1 = .ok (.iload_n 1, 1) := by decide +kernel
theorem dX11_join_2 : decode cX11_join 2 = .ok (.invokevirtual 225, 3) := by decide +kernel
theorem dX11_join_5 : decode cX11_join 5 = .ok (.aload_n 0, 1) := by decide +kernel
theorem dX11_join_6 : decode cX11_join 6 = .ok (.iload_n 2, 1) := by decide +kernel
theorem dX11_join_7 : decode cX11_join 7 = .ok (.invokevirtual 225, 3) := by decide +kernel
theorem dX11_join_10 : decode cX11_join 10 = .ok (.iload_n 1, 1) := by decide +kernel
theorem dX11_join_11 : decode cX11_join 11 = .ok (.iload_n 2, 1) := by decide +kernel
theorem dX11_join_12 : decode cX11_join 12 = .ok (.if_icmp .ne 9, 3) := by decide +kernel
theorem dX11_join_15 : decode cX11_join 15 = .ok (.aload_n 0, 1) := by decide +kernel
theorem dX11_join_16 : decode cX11_join 16 = .ok (.iconst 1, 1) := by decide +kernel
theorem dX11_join_17 : decode cX11_join 17 = .ok (.invokevirtual 246, 3) := by decide +kernel
theorem dX11_join_20 : decode cX11_join 20 = .ok (.ireturn, 1) := by decide +kernel
theorem dX11_join_21 : decode cX11_join 21 = .ok (.aload_n 0, 1) := by decide +kernel
theorem dX11_join_22 : decode cX11_join 22 = .ok (.getfield 48, 3) := by decide +kernel
theorem dX11_join_25 : decode cX11_join 25 = .ok (.getfield 228, 3) := by decide +kernel
theorem dX11_join_28 : decode cX11_join 28 = .ok (.iload_n 1, 1) := by decide +kernel
theorem dX11_join_29 : decode cX11_join 29 = .ok (.iaload, 1) := by decide +kernel
theorem dX11_join_30 : decode cX11_join 30 = .ok (.aload_n 0, 1) := by decide +kernel
theorem dX11_join_31 : decode cX11_join 31 = .ok (.getfield 48, 3) := by decide +kernel
theorem dX11_join_34 : decode cX11_join 34 = .ok (.getfield 228, 3) := by decide +kernel
theorem dX11_join_37 : decode cX11_join 37 = .ok (.iload_n 2, 1) := by decide +kernel
theorem dX11_join_38 : decode cX11_join 38 = .ok (.iaload, 1) := by decide +kernel
theorem dX11_join_39 : decode cX11_join 39 = .ok (.iadd, 1) := by decide +kernel
theorem dX11_join_40 : decode cX11_join 40 = .ok (.istore_n 3, 1) := by decide +kernel
theorem dX11_join_41 : decode cX11_join 41 = .ok (.aload_n 0, 1) := by decide +kernel
theorem dX11_join_42 : decode cX11_join 42 = .ok (.getfield 64, 3) := by decide +kernel
theorem dX11_join_45 : decode cX11_join 45 = .ok (.aload_n 0, 1) := by decide +kernel
theorem dX11_join_46 : decode cX11_join 46 = .ok (.getfield 48, 3) := by decide +kernel
theorem dX11_join_49 : decode cX11_join 49 = .ok (.invokevirtual 249, 3) := by decide +kernel
theorem dX11_join_52 : decode cX11_join 52 = .ok (.aload_n 0, 1) := by decide +kernel
theorem dX11_join_53 : decode cX11_join 53 = .ok (.getfield 48, 3) := by decide +kernel
theorem dX11_join_56 : decode cX11_join 56 = .ok (.iload_n 1, 1) := by decide +kernel
theorem dX11_join_57 : decode cX11_join 57 = .ok (.iload_n 2, 1) := by decide +kernel
theorem dX11_join_58 : decode cX11_join 58 = .ok (.invokevirtual 267, 3) := by decide +kernel
theorem dX11_join_61 : decode cX11_join 61 = .ok (.aload_n 0, 1) := by decide +kernel
theorem dX11_join_62 : decode cX11_join 62 = .ok (.getfield 57, 3) := by decide +kernel
theorem dX11_join_65 : decode cX11_join 65 = .ok (.invokevirtual 148, 3) := by decide +kernel
theorem dX11_join_68 : decode cX11_join 68 = .ok (.iload_n 3, 1) := by decide +kernel
theorem dX11_join_69 : decode cX11_join 69 = .ok (.ireturn, 1) := by decide +kernel
theorem dX11_rank_0 : decode cX11_rank 0 = .ok (.aload_n 0, 1) := by decide +kernel
theorem dX11_rank_1 : decode cX11_rank 1 = .ok (.iload_n 1, 1) := by decide +kernel
theorem dX11_rank_2 : decode cX11_rank 2 = .ok (.invokevirtual 193, 3) := by decide +kernel
theorem dX11_rank_5 : decode cX11_rank 5 = .ok (.aload_n 0, 1) := by decide +kernel
theorem dX11_rank_6 : decode cX11_rank 6 = .ok (.getfield 48, 3) := by decide +kernel
theorem dX11_rank_9 : decode cX11_rank 9 = .ok (.getfield 201, 3) := by decide +kernel
theorem dX11_rank_12 : decode cX11_rank 12 = .ok (.iload_n 1, 1) := by decide +kernel
theorem dX11_rank_13 : decode cX11_rank 13 = .ok (.iaload, 1) := by decide +kernel
theorem dX11_rank_14 : decode cX11_rank 14 = .ok (.istore_n 3, 1) := by decide +kernel
theorem dX11_rank_15 : decode cX11_rank 15 = .ok (.iload_n 2, 1) := by decide +kernel
theorem dX11_rank_16 : decode cX11_rank 16 = .ok (.ifCond .lt 14, 3) := by decide +kernel
theorem dX11_rank_19 : decode cX11_rank 19 = .ok (.iload_n 2, 1) := by decide +kernel
theorem dX11_rank_20 : decode cX11_rank 20 = .ok (.bipush 9, 2) := by decide +kernel
theorem dX11_rank_22 : decode cX11_rank 22 = .ok (.if_icmp .gt 8, 3) := by decide +kernel
theorem dX11_rank_25 : decode cX11_rank 25 = .ok (.iload_n 2, 1) := by decide +kernel
theorem dX11_rank_26 : decode cX11_rank 26 = .ok (.iload_n 3, 1) := by decide +kernel
theorem dX11_rank_27 : decode cX11_rank 27 = .ok (.if_icmp .ne 9, 3) := by decide +kernel
theorem dX11_rank_30 : decode cX11_rank 30 = .ok (.aload_n 0, 1) := by decide +kernel
theorem dX11_rank_31 : decode cX11_rank 31 = .ok (.iconst 1, 1) := by decide +kernel
theorem dX11_rank_32 : decode cX11_rank 32 = .ok (.invokevirtual 246, 3) := by decide +kernel
theorem dX11_rank_35 : decode cX11_rank 35 = .ok (.ireturn, 1) := by decide +kernel
theorem dX11_rank_36 : decode cX11_rank 36 = .ok (.aload_n 0, 1) := by decide +kernel
theorem dX11_rank_37 : decode cX11_rank 37 = .ok (.getfield 64, 3) := by decide +kernel
theorem dX11_rank_40 : decode cX11_rank 40 = .ok (.aload_n 0, 1) := by decide +kernel
theorem dX11_rank_41 : decode cX11_rank 41 = .ok (.getfield 48, 3) := by decide +kernel
theorem dX11_rank_44 : decode cX11_rank 44 = .ok (.invokevirtual 249, 3) := by decide +kernel
theorem dX11_rank_47 : decode cX11_rank 47 = .ok (.aload_n 0, 1) := by decide +kernel
theorem dX11_rank_48 : decode cX11_rank 48 = .ok (.getfield 48, 3) := by decide +kernel
theorem dX11_rank_51 : decode cX11_rank 51 = .ok (.getfield 201, 3) := by decide +kernel
theorem dX11_rank_54 : decode cX11_rank 54 = .ok (.iload_n 1, 1) := by decide +kernel
theorem dX11_rank_55 : decode cX11_rank 55 = .ok (.iload_n 2, 1) := by decide +kernel
theorem dX11_rank_56 : decode cX11_rank 56 = .ok (.iastore, 1) := by decide +kernel
theorem dX11_rank_57 : decode cX11_rank 57 = .ok (.aload_n 0, 1) := by decide +kernel
theorem dX11_rank_58 : decode cX11_rank 58 = .ok (.getfield 57, 3) := by decide +kernel
theorem dX11_rank_61 : decode cX11_rank 61 = .ok (.invokevirtual 148, 3) := by decide +kernel
theorem dX11_rank_64 : decode cX11_rank 64 = .ok (.iload_n 3, 1) := by decide +kernel
theorem dX11_rank_65 : decode cX11_rank 65 = .ok (.ireturn, 1) := by decide +kernel
theorem dX11_undo_0 : decode cX11_undo 0 = .ok (.aload_n 0, 1) := by decide +kernel
theorem dX11_undo_1 : decode cX11_undo 1 = .ok (.getfield 64, 3) := by decide +kernel
theorem dX11_undo_4 : decode cX11_undo 4 = .ok (.getfield 151, 3) := by decide +kernel
theorem dX11_undo_7 : decode cX11_undo 7 = .ok (.ifCond .ne 5, 3) := by decide +kernel
theorem dX11_undo_10 : decode cX11_undo 10 = .ok (.iconst (-1), 1) := by decide +kernel
theorem dX11_undo_11 : decode cX11_undo 11 = .ok (.ireturn, 1) := by decide +kernel
theorem dX11_undo_12 : decode cX11_undo 12 = .ok (.aload_n 0, 1) := by decide +kernel
theorem dX11_undo_13 : decode cX11_undo 13 = .ok (.getfield 64, 3) := by decide +kernel
theorem dX11_undo_16 : decode cX11_undo 16 = .ok (.aload_n 0, 1) := by decide +kernel
theorem dX11_undo_17 : decode cX11_undo 17 = .ok (.getfield 48, 3) := by decide +kernel
theorem dX11_undo_20 : decode cX11_undo 20 = .ok (.invokevirtual 270, 3) := by decide +kernel
theorem dX11_undo_23 : decode cX11_undo 23 = .ok (.aload_n 0, 1) := by decide +kernel
theorem dX11_undo_24 : decode cX11_undo 24 = .ok (.getfield 57, 3) := by decide +kernel
theorem dX11_undo_27 : decode cX11_undo 27 = .ok (.invokevirtual 148, 3) := by decide +kernel
theorem dX11_undo_30 : decode cX11_undo 30 = .ok (.aload_n 0, 1) := by decide +kernel
theorem dX11_undo_31 : decode cX11_undo 31 = .ok (.getfield 64, 3) := by decide +kernel
theorem dX11_undo_34 : decode cX11_undo 34 = .ok (.getfield 151, 3) := by decide +kernel
theorem dX11_undo_37 : decode cX11_undo 37 = .ok (.ireturn, 1) := by decide +kernel
theorem dX11_then_0 : decode cX11_then 0 = .ok (.aload_n 0, 1) := by decide +kernel
theorem dX11_then_1 : decode cX11_then 1 = .ok (.iload_n 1, 1) := by decide +kernel
theorem dX11_then_2 : decode cX11_then 2 = .ok (.invokevirtual 193, 3) := by decide +kernel
theorem dX11_then_5 : decode cX11_then 5 = .ok (.iload_n 3, 1) := by decide +kernel
theorem dX11_then_6 : decode cX11_then 6 = .ok (.iconst 3, 1) := by decide +kernel
theorem dX11_then_7 : decode cX11_then 7 = .ok (.invokestatic 273, 3) := by decide +kernel
theorem dX11_then_10 : decode cX11_then 10 = .ok (.iload_n 2, 1) := by decide +kernel
theorem dX11_then_11 : decode cX11_then 11 = .ok (.iconst 0, 1) := by decide +kernel
theorem dX11_then_12 : decode cX11_then 12 = .ok (.bipush 100, 2) := by decide +kernel
theorem dX11_then_14 : decode cX11_then 14 = .ok (.invokestatic 276, 3) := by decide +kernel
theorem dX11_then_17 : decode cX11_then 17 = .ok (.aload_n 0, 1) := by decide +kernel
theorem dX11_then_18 : decode cX11_then 18 = .ok (.getfield 57, 3) := by decide +kernel
theorem dX11_then_21 : decode cX11_then 21 = .ok (.iload_n 2, 1) := by decide +kernel
theorem dX11_then_22 : decode cX11_then 22 = .ok (.invokevirtual 252, 3) := by decide +kernel
theorem dX11_then_25 : decode cX11_then 25 = .ok (.astore 4, 2) := by decide +kernel
theorem dX11_then_27 : decode cX11_then 27 = .ok (.aload 4, 2) := by decide +kernel
theorem dX11_then_29 : decode cX11_then 29 = .ok (.getfield 196, 3) := by decide +kernel
theorem dX11_then_32 : decode cX11_then 32 = .ok (.iload_n 1, 1) := by decide +kernel
theorem dX11_then_33 : decode cX11_then 33 = .ok (.iaload, 1) := by decide +kernel
theorem dX11_then_34 : decode cX11_then 34 = .ok (.istore 5, 2) := by decide +kernel
theorem dX11_then_36 : decode cX11_then 36 = .ok (.iload_n 3, 1) := by decide +kernel
theorem dX11_then_37 : decode cX11_then 37 = .ok (.tableswitch 46 0 2 #[27, 30, 38], 27) := by decide +kernel
theorem dX11_then_64 : decode cX11_then 64 = .ok (.iload 5, 2) := by decide +kernel
theorem dX11_then_66 : decode cX11_then 66 = .ok (.ireturn, 1) := by decide +kernel
theorem dX11_then_67 : decode cX11_then 67 = .ok (.aload 4, 2) := by decide +kernel
theorem dX11_then_69 : decode cX11_then 69 = .ok (.getfield 199, 3) := by decide +kernel
theorem dX11_then_72 : decode cX11_then 72 = .ok (.iload_n 1, 1) := by decide +kernel
theorem dX11_then_73 : decode cX11_then 73 = .ok (.iaload, 1) := by decide +kernel
theorem dX11_then_74 : decode cX11_then 74 = .ok (.ireturn, 1) := by decide +kernel
theorem dX11_then_75 : decode cX11_then 75 = .ok (.aload 4, 2) := by decide +kernel
theorem dX11_then_77 : decode cX11_then 77 = .ok (.getfield 204, 3) := by decide +kernel
theorem dX11_then_80 : decode cX11_then 80 = .ok (.iload_n 1, 1) := by decide +kernel
theorem dX11_then_81 : decode cX11_then 81 = .ok (.iaload, 1) := by decide +kernel
theorem dX11_then_82 : decode cX11_then 82 = .ok (.ireturn, 1) := by decide +kernel
theorem dX11_then_83 : decode cX11_then 83 = .ok (.aload 4, 2) := by decide +kernel
theorem dX11_then_85 : decode cX11_then 85 = .ok (.getfield 228, 3) := by decide +kernel
theorem dX11_then_88 : decode cX11_then 88 = .ok (.iload 5, 2) := by decide +kernel
theorem dX11_then_90 : decode cX11_then 90 = .ok (.iaload, 1) := by decide +kernel
theorem dX11_then_91 : decode cX11_then 91 = .ok (.ireturn, 1) := by decide +kernel
theorem dX11_size_0 : decode cX11_size 0 = .ok (.iload_n 2, 1) := by decide +kernel
theorem dX11_size_1 : decode cX11_size 1 = .ok (.iconst 0, 1) := by decide +kernel
theorem dX11_size_2 : decode cX11_size 2 = .ok (.bipush 100, 2) := by decide +kernel
theorem dX11_size_4 : decode cX11_size 4 = .ok (.invokestatic 276, 3) := by decide +kernel
theorem dX11_size_7 : decode cX11_size 7 = .ok (.iload_n 1, 1) := by decide +kernel
theorem dX11_size_8 : decode cX11_size 8 = .ok (.iconst 0, 1) := by decide +kernel
theorem dX11_size_9 : decode cX11_size 9 = .ok (.bipush 11, 2) := by decide +kernel
theorem dX11_size_11 : decode cX11_size 11 = .ok (.invokestatic 276, 3) := by decide +kernel
theorem dX11_size_14 : decode cX11_size 14 = .ok (.aload_n 0, 1) := by decide +kernel
theorem dX11_size_15 : decode cX11_size 15 = .ok (.getfield 57, 3) := by decide +kernel
theorem dX11_size_18 : decode cX11_size 18 = .ok (.iload_n 2, 1) := by decide +kernel
theorem dX11_size_19 : decode cX11_size 19 = .ok (.invokevirtual 252, 3) := by decide +kernel
theorem dX11_size_22 : decode cX11_size 22 = .ok (.iload_n 1, 1) := by decide +kernel
theorem dX11_size_23 : decode cX11_size 23 = .ok (.invokevirtual 280, 3) := by decide +kernel
theorem dX11_size_26 : decode cX11_size 26 = .ok (.ireturn, 1) := by decide +kernel
theorem dX11_later_0 : decode cX11_later 0 = .ok (.iload_n 2, 1) := by decide +kernel
theorem dX11_later_1 : decode cX11_later 1 = .ok (.iconst 4, 1) := by decide +kernel
theorem dX11_later_2 : decode cX11_later 2 = .ok (.invokestatic 273, 3) := by decide +kernel
theorem dX11_later_5 : decode cX11_later 5 = .ok (.iload_n 1, 1) := by decide +kernel
theorem dX11_later_6 : decode cX11_later 6 = .ok (.iconst 0, 1) := by decide +kernel
theorem dX11_later_7 : decode cX11_later 7 = .ok (.bipush 100, 2) := by decide +kernel
theorem dX11_later_9 : decode cX11_later 9 = .ok (.invokestatic 276, 3) := by decide +kernel
theorem dX11_later_12 : decode cX11_later 12 = .ok (.aload_n 0, 1) := by decide +kernel
theorem dX11_later_13 : decode cX11_later 13 = .ok (.getfield 57, 3) := by decide +kernel
theorem dX11_later_16 : decode cX11_later 16 = .ok (.iload_n 1, 1) := by decide +kernel
theorem dX11_later_17 : decode cX11_later 17 = .ok (.invokevirtual 252, 3) := by decide +kernel
theorem dX11_later_20 : decode cX11_later 20 = .ok (.astore_n 3, 1) := by decide +kernel
theorem dX11_later_21 : decode cX11_later 21 = .ok (.iload_n 2, 1) := by decide +kernel
theorem dX11_later_22 : decode cX11_later 22 = .ok (.tableswitch 54 0 3 #[30, 35, 40, 45], 30) := by decide +kernel
theorem dX11_later_52 : decode cX11_later 52 = .ok (.aload_n 3, 1) := by decide +kernel
theorem dX11_later_53 : decode cX11_later 53 = .ok (.getfield 158, 3) := by decide +kernel
theorem dX11_later_56 : decode cX11_later 56 = .ok (.ireturn, 1) := by decide +kernel
theorem dX11_later_57 : decode cX11_later 57 = .ok (.aload_n 3, 1) := by decide +kernel
theorem dX11_later_58 : decode cX11_later 58 = .ok (.invokevirtual 164, 3) := by decide +kernel
theorem dX11_later_61 : decode cX11_later 61 = .ok (.ireturn, 1) := by decide +kernel
theorem dX11_later_62 : decode cX11_later 62 = .ok (.aload_n 3, 1) := by decide +kernel
theorem dX11_later_63 : decode cX11_later 63 = .ok (.invokevirtual 167, 3) := by decide +kernel
theorem dX11_later_66 : decode cX11_later 66 = .ok (.ireturn, 1) := by decide +kernel
theorem dX11_later_67 : decode cX11_later 67 = .ok (.aload_n 0, 1) := by decide +kernel
theorem dX11_later_68 : decode cX11_later 68 = .ok (.getfield 34, 3) := by decide +kernel
theorem dX11_later_71 : decode cX11_later 71 = .ok (.aload_n 3, 1) := by decide +kernel
theorem dX11_later_72 : decode cX11_later 72 = .ok (.invokevirtual 180, 3) := by decide +kernel
theorem dX11_later_75 : decode cX11_later 75 = .ok (.ireturn, 1) := by decide +kernel
theorem dX11_later_76 : decode cX11_later 76 = .ok (.aload_n 3, 1) := by decide +kernel
theorem dX11_later_77 : decode cX11_later 77 = .ok (.invokevirtual 170, 3) := by decide +kernel
theorem dX11_later_80 : decode cX11_later 80 = .ok (.ifCond .eq 7, 3) := by decide +kernel
theorem dX11_later_83 : decode cX11_later 83 = .ok (.iconst 1, 1) := by decide +kernel
theorem dX11_later_84 : decode cX11_later 84 = .ok (.goto 4, 3) := by decide +kernel
theorem dX11_later_87 : decode cX11_later 87 = .ok (.iconst 0, 1) := by decide +kernel
theorem dX11_later_88 : decode cX11_later 88 = .ok (.ireturn, 1) := by decide +kernel
theorem dX11_meet_0 : decode cX11_meet 0 = .ok (.aload_n 0, 1) := by decide +kernel
theorem dX11_meet_1 : decode cX11_meet 1 = .ok (.iload_n 1, 1) := by decide +kernel
theorem dX11_meet_2 : decode cX11_meet 2 = .ok (.invokevirtual 193, 3) := by decide +kernel
theorem dX11_meet_5 : decode cX11_meet 5 = .ok (.aload_n 0, 1) := by decide +kernel
theorem dX11_meet_6 : decode cX11_meet 6 = .ok (.iload_n 2, 1) := by decide +kernel
theorem dX11_meet_7 : decode cX11_meet 7 = .ok (.invokevirtual 193, 3) := by decide +kernel
theorem dX11_meet_10 : decode cX11_meet 10 = .ok (.iload_n 3, 1) := by decide +kernel
theorem dX11_meet_11 : decode cX11_meet 11 = .ok (.iconst 1, 1) := by decide +kernel
theorem dX11_meet_12 : decode cX11_meet 12 = .ok (.invokestatic 273, 3) := by decide +kernel
theorem dX11_meet_15 : decode cX11_meet 15 = .ok (.iload_n 1, 1) := by decide +kernel
theorem dX11_meet_16 : decode cX11_meet 16 = .ok (.iload_n 2, 1) := by decide +kernel
theorem dX11_meet_17 : decode cX11_meet 17 = .ok (.if_icmp .ne 7, 3) := by decide +kernel
theorem dX11_meet_20 : decode cX11_meet 20 = .ok (.iconst (-1), 1) := by decide +kernel
theorem dX11_meet_21 : decode cX11_meet 21 = .ok (.goto 21, 3) := by decide +kernel
theorem dX11_meet_24 : decode cX11_meet 24 = .ok (.aload_n 0, 1) := by decide +kernel
theorem dX11_meet_25 : decode cX11_meet 25 = .ok (.getfield 57, 3) := by decide +kernel
theorem dX11_meet_28 : decode cX11_meet 28 = .ok (.iload_n 1, 1) := by decide +kernel
theorem dX11_meet_29 : decode cX11_meet 29 = .ok (.iload_n 2, 1) := by decide +kernel
theorem dX11_meet_30 : decode cX11_meet 30 = .ok (.iload_n 3, 1) := by decide +kernel
theorem dX11_meet_31 : decode cX11_meet 31 = .ok (.ifCond .ne 7, 3) := by decide +kernel
theorem dX11_meet_34 : decode cX11_meet 34 = .ok (.iconst 1, 1) := by decide +kernel
theorem dX11_meet_35 : decode cX11_meet 35 = .ok (.goto 4, 3) := by decide +kernel
theorem dX11_meet_38 : decode cX11_meet 38 = .ok (.iconst 0, 1) := by decide +kernel
theorem dX11_meet_39 : decode cX11_meet 39 = .ok (.invokevirtual 283, 3) := by decide +kernel
theorem dX11_meet_42 : decode cX11_meet 42 = .ok (.ireturn, 1) := by decide +kernel
theorem dX11_together_0 : decode cX11_together 0 = .ok (.aload_n 0, 1) := by decide +kernel
theorem dX11_together_1 : decode cX11_together 1 = .ok (.iload_n 1, 1) := by decide +kernel
theorem dX11_together_2 : decode cX11_together 2 = .ok (.invokevirtual 193, 3) := by decide +kernel
theorem dX11_together_5 : decode cX11_together 5 = .ok (.aload_n 0, 1) := by decide +kernel
theorem dX11_together_6 : decode cX11_together 6 = .ok (.iload_n 2, 1) := by decide +kernel
theorem dX11_together_7 : decode cX11_together 7 = .ok (.invokevirtual 193, 3) := by decide +kernel
theorem dX11_together_10 : decode cX11_together 10 = .ok (.iload_n 3, 1) := by decide +kernel
theorem dX11_together_11 : decode cX11_together 11 = .ok (.iconst 1, 1) := by decide +kernel
theorem dX11_together_12 : decode cX11_together 12 = .ok (.bipush 100, 2) := by decide +kernel
theorem dX11_together_14 : decode cX11_together 14 = .ok (.invokestatic 276, 3) := by decide +kernel
theorem dX11_together_17 : decode cX11_together 17 = .ok (.iconst 0, 1) := by decide +kernel
theorem dX11_together_18 : decode cX11_together 18 = .ok (.istore 4, 2) := by decide +kernel
theorem dX11_together_20 : decode cX11_together 20 = .ok (.iconst 1, 1) := by decide +kernel
theorem dX11_together_21 : decode cX11_together 21 = .ok (.istore 5, 2) := by decide +kernel
theorem dX11_together_23 : decode cX11_together 23 = .ok (.iload 5, 2) := by decide +kernel
theorem dX11_together_25 : decode cX11_together 25 = .ok (.iload_n 3, 1) := by decide +kernel
theorem dX11_together_26 : decode cX11_together 26 = .ok (.if_icmp .gt 29, 3) := by decide +kernel
theorem dX11_together_29 : decode cX11_together 29 = .ok (.aload_n 0, 1) := by decide +kernel
theorem dX11_together_30 : decode cX11_together 30 = .ok (.getfield 57, 3) := by decide +kernel
theorem dX11_together_33 : decode cX11_together 33 = .ok (.iload 5, 2) := by decide +kernel
theorem dX11_together_35 : decode cX11_together 35 = .ok (.invokevirtual 252, 3) := by decide +kernel
theorem dX11_together_38 : decode cX11_together 38 = .ok (.iload_n 1, 1) := by decide +kernel
theorem dX11_together_39 : decode cX11_together 39 = .ok (.iload_n 2, 1) := by decide +kernel
theorem dX11_together_40 : decode cX11_together 40 = .ok (.invokevirtual 287, 3) := by decide +kernel
theorem dX11_together_43 : decode cX11_together 43 = .ok (.ifCond .eq 6, 3) := by decide +kernel
theorem dX11_together_46 : decode cX11_together 46 = .ok (.iinc 4 1, 3) := by decide +kernel
theorem dX11_together_49 : decode cX11_together 49 = .ok (.iinc 5 1, 3) := by decide +kernel
theorem dX11_together_52 : decode cX11_together 52 = .ok (.goto (-29), 3) := by decide +kernel
theorem dX11_together_55 : decode cX11_together 55 = .ok (.iload 4, 2) := by decide +kernel
theorem dX11_together_57 : decode cX11_together 57 = .ok (.ireturn, 1) := by decide +kernel
theorem dX11_goes_0 : decode cX11_goes 0 = .ok (.aload_n 0, 1) := by decide +kernel
theorem dX11_goes_1 : decode cX11_goes 1 = .ok (.iload_n 1, 1) := by decide +kernel
theorem dX11_goes_2 : decode cX11_goes 2 = .ok (.invokevirtual 193, 3) := by decide +kernel
theorem dX11_goes_5 : decode cX11_goes 5 = .ok (.iload_n 2, 1) := by decide +kernel
theorem dX11_goes_6 : decode cX11_goes 6 = .ok (.iconst 1, 1) := by decide +kernel
theorem dX11_goes_7 : decode cX11_goes 7 = .ok (.invokestatic 273, 3) := by decide +kernel
theorem dX11_goes_10 : decode cX11_goes 10 = .ok (.iload_n 2, 1) := by decide +kernel
theorem dX11_goes_11 : decode cX11_goes 11 = .ok (.ifCond .ne 14, 3) := by decide +kernel
theorem dX11_goes_14 : decode cX11_goes 14 = .ok (.aload_n 0, 1) := by decide +kernel
theorem dX11_goes_15 : decode cX11_goes 15 = .ok (.getfield 57, 3) := by decide +kernel
theorem dX11_goes_18 : decode cX11_goes 18 = .ok (.iload_n 1, 1) := by decide +kernel
theorem dX11_goes_19 : decode cX11_goes 19 = .ok (.invokevirtual 291, 3) := by decide +kernel
theorem dX11_goes_22 : decode cX11_goes 22 = .ok (.goto 11, 3) := by decide +kernel
theorem dX11_goes_25 : decode cX11_goes 25 = .ok (.aload_n 0, 1) := by decide +kernel
theorem dX11_goes_26 : decode cX11_goes 26 = .ok (.getfield 57, 3) := by decide +kernel
theorem dX11_goes_29 : decode cX11_goes 29 = .ok (.iload_n 1, 1) := by decide +kernel
theorem dX11_goes_30 : decode cX11_goes 30 = .ok (.invokevirtual 294, 3) := by decide +kernel
theorem dX11_goes_33 : decode cX11_goes 33 = .ok (.ireturn, 1) := by decide +kernel
theorem dX11_falls_0 : decode cX11_falls 0 = .ok (.aload_n 0, 1) := by decide +kernel
theorem dX11_falls_1 : decode cX11_falls 1 = .ok (.iload_n 1, 1) := by decide +kernel
theorem dX11_falls_2 : decode cX11_falls 2 = .ok (.invokevirtual 225, 3) := by decide +kernel
theorem dX11_falls_5 : decode cX11_falls 5 = .ok (.aload_n 0, 1) := by decide +kernel
theorem dX11_falls_6 : decode cX11_falls 6 = .ok (.getfield 57, 3) := by decide +kernel
theorem dX11_falls_9 : decode cX11_falls 9 = .ok (.iload_n 1, 1) := by decide +kernel
theorem dX11_falls_10 : decode cX11_falls 10 = .ok (.invokevirtual 297, 3) := by decide +kernel
theorem dX11_falls_13 : decode cX11_falls 13 = .ok (.ireturn, 1) := by decide +kernel
theorem dX11_who_0 : decode cX11_who 0 = .ok (.iload_n 1, 1) := by decide +kernel
theorem dX11_who_1 : decode cX11_who 1 = .ok (.iconst 0, 1) := by decide +kernel
theorem dX11_who_2 : decode cX11_who 2 = .ok (.bipush 11, 2) := by decide +kernel
theorem dX11_who_4 : decode cX11_who 4 = .ok (.invokestatic 276, 3) := by decide +kernel
theorem dX11_who_7 : decode cX11_who 7 = .ok (.iload_n 2, 1) := by decide +kernel
theorem dX11_who_8 : decode cX11_who 8 = .ok (.iconst 0, 1) := by decide +kernel
theorem dX11_who_9 : decode cX11_who 9 = .ok (.bipush 11, 2) := by decide +kernel
theorem dX11_who_11 : decode cX11_who 11 = .ok (.invokestatic 276, 3) := by decide +kernel
theorem dX11_who_14 : decode cX11_who 14 = .ok (.iload_n 3, 1) := by decide +kernel
theorem dX11_who_15 : decode cX11_who 15 = .ok (.iconst 0, 1) := by decide +kernel
theorem dX11_who_16 : decode cX11_who 16 = .ok (.bipush 100, 2) := by decide +kernel
theorem dX11_who_18 : decode cX11_who 18 = .ok (.invokestatic 276, 3) := by decide +kernel
theorem dX11_who_21 : decode cX11_who 21 = .ok (.aload_n 0, 1) := by decide +kernel
theorem dX11_who_22 : decode cX11_who 22 = .ok (.getfield 57, 3) := by decide +kernel
theorem dX11_who_25 : decode cX11_who 25 = .ok (.iload_n 3, 1) := by decide +kernel
theorem dX11_who_26 : decode cX11_who 26 = .ok (.invokevirtual 252, 3) := by decide +kernel
theorem dX11_who_29 : decode cX11_who 29 = .ok (.iload_n 1, 1) := by decide +kernel
theorem dX11_who_30 : decode cX11_who 30 = .ok (.iload_n 2, 1) := by decide +kernel
theorem dX11_who_31 : decode cX11_who 31 = .ok (.invokevirtual 234, 3) := by decide +kernel
theorem dX11_who_34 : decode cX11_who 34 = .ok (.ireturn, 1) := by decide +kernel
theorem dX11_round_0 : decode cX11_round 0 = .ok (.iload_n 1, 1) := by decide +kernel
theorem dX11_round_1 : decode cX11_round 1 = .ok (.iconst 1, 1) := by decide +kernel
theorem dX11_round_2 : decode cX11_round 2 = .ok (.invokestatic 273, 3) := by decide +kernel
theorem dX11_round_5 : decode cX11_round 5 = .ok (.aload_n 0, 1) := by decide +kernel
theorem dX11_round_6 : decode cX11_round 6 = .ok (.getfield 57, 3) := by decide +kernel
theorem dX11_round_9 : decode cX11_round 9 = .ok (.iload_n 1, 1) := by decide +kernel
theorem dX11_round_10 : decode cX11_round 10 = .ok (.ifCond .ne 7, 3) := by decide +kernel
theorem dX11_round_13 : decode cX11_round 13 = .ok (.iconst 1, 1) := by decide +kernel
theorem dX11_round_14 : decode cX11_round 14 = .ok (.goto 4, 3) := by decide +kernel
theorem dX11_round_17 : decode cX11_round 17 = .ok (.iconst 0, 1) := by decide +kernel
theorem dX11_round_18 : decode cX11_round 18 = .ok (.invokevirtual 300, 3) := by decide +kernel
theorem dX11_round_21 : decode cX11_round 21 = .ok (.ireturn, 1) := by decide +kernel
theorem dX11_asNow_0 : decode cX11_asNow 0 = .ok (.aload_n 0, 1) := by decide +kernel
theorem dX11_asNow_1 : decode cX11_asNow 1 = .ok (.getfield 57, 3) := by decide +kernel
theorem dX11_asNow_4 : decode cX11_asNow 4 = .ok (.invokevirtual 304, 3) := by decide +kernel
theorem dX11_asNow_7 : decode cX11_asNow 7 = .ok (.ireturn, 1) := by decide +kernel
theorem dX11_known_0 : decode cX11_known 0 = .ok (.aload_n 0, 1) := by decide +kernel
theorem dX11_known_1 : decode cX11_known 1 = .ok (.iload_n 1, 1) := by decide +kernel
theorem dX11_known_2 : decode cX11_known 2 = .ok (.invokevirtual 193, 3) := by decide +kernel
theorem dX11_known_5 : decode cX11_known 5 = .ok (.iload_n 2, 1) := by decide +kernel
theorem dX11_known_6 : decode cX11_known 6 = .ok (.iconst 0, 1) := by decide +kernel
theorem dX11_known_7 : decode cX11_known 7 = .ok (.bipush 100, 2) := by decide +kernel
theorem dX11_known_9 : decode cX11_known 9 = .ok (.invokestatic 276, 3) := by decide +kernel
theorem dX11_known_12 : decode cX11_known 12 = .ok (.aload_n 0, 1) := by decide +kernel
theorem dX11_known_13 : decode cX11_known 13 = .ok (.getfield 57, 3) := by decide +kernel
theorem dX11_known_16 : decode cX11_known 16 = .ok (.iload_n 2, 1) := by decide +kernel
theorem dX11_known_17 : decode cX11_known 17 = .ok (.invokevirtual 307, 3) := by decide +kernel
theorem dX11_known_20 : decode cX11_known 20 = .ok (.iload_n 1, 1) := by decide +kernel
theorem dX11_known_21 : decode cX11_known 21 = .ok (.invokevirtual 311, 3) := by decide +kernel
theorem dX11_known_24 : decode cX11_known 24 = .ok (.ireturn, 1) := by decide +kernel
theorem dX11_allKnown_0 : decode cX11_allKnown 0 = .ok (.aload_n 0, 1) := by decide +kernel
theorem dX11_allKnown_1 : decode cX11_allKnown 1 = .ok (.getfield 57, 3) := by decide +kernel
theorem dX11_allKnown_4 : decode cX11_allKnown 4 = .ok (.invokevirtual 314, 3) := by decide +kernel
theorem dX11_allKnown_7 : decode cX11_allKnown 7 = .ok (.ireturn, 1) := by decide +kernel
theorem dX11_toMeet_0 : decode cX11_toMeet 0 = .ok (.aload_n 0, 1) := by decide +kernel
theorem dX11_toMeet_1 : decode cX11_toMeet 1 = .ok (.iload_n 1, 1) := by decide +kernel
theorem dX11_toMeet_2 : decode cX11_toMeet 2 = .ok (.invokevirtual 193, 3) := by decide +kernel
theorem dX11_toMeet_5 : decode cX11_toMeet 5 = .ok (.aload_n 0, 1) := by decide +kernel
theorem dX11_toMeet_6 : decode cX11_toMeet 6 = .ok (.iload_n 2, 1) := by decide +kernel
theorem dX11_toMeet_7 : decode cX11_toMeet 7 = .ok (.invokevirtual 193, 3) := by decide +kernel
theorem dX11_toMeet_10 : decode cX11_toMeet 10 = .ok (.aload_n 0, 1) := by decide +kernel
theorem dX11_toMeet_11 : decode cX11_toMeet 11 = .ok (.getfield 48, 3) := by decide +kernel
theorem dX11_toMeet_14 : decode cX11_toMeet 14 = .ok (.iload_n 1, 1) := by decide +kernel
theorem dX11_toMeet_15 : decode cX11_toMeet 15 = .ok (.iload_n 2, 1) := by decide +kernel
theorem dX11_toMeet_16 : decode cX11_toMeet 16 = .ok (.invokevirtual 287, 3) := by decide +kernel
theorem dX11_toMeet_19 : decode cX11_toMeet 19 = .ok (.ifCond .eq 5, 3) := by decide +kernel
theorem dX11_toMeet_22 : decode cX11_toMeet 22 = .ok (.iconst (-1), 1) := by decide +kernel
theorem dX11_toMeet_23 : decode cX11_toMeet 23 = .ok (.ireturn, 1) := by decide +kernel
theorem dX11_toMeet_24 : decode cX11_toMeet 24 = .ok (.aload_n 0, 1) := by decide +kernel
theorem dX11_toMeet_25 : decode cX11_toMeet 25 = .ok (.getfield 87, 3) := by decide +kernel
theorem dX11_toMeet_28 : decode cX11_toMeet 28 = .ok (.aload_n 0, 1) := by decide +kernel
theorem dX11_toMeet_29 : decode cX11_toMeet 29 = .ok (.getfield 48, 3) := by decide +kernel
theorem dX11_toMeet_32 : decode cX11_toMeet 32 = .ok (.iload_n 1, 1) := by decide +kernel
theorem dX11_toMeet_33 : decode cX11_toMeet 33 = .ok (.iload_n 2, 1) := by decide +kernel
theorem dX11_toMeet_34 : decode cX11_toMeet 34 = .ok (.aload_n 0, 1) := by decide +kernel
theorem dX11_toMeet_35 : decode cX11_toMeet 35 = .ok (.getfield 57, 3) := by decide +kernel
theorem dX11_toMeet_38 : decode cX11_toMeet 38 = .ok (.iload_n 1, 1) := by decide +kernel
theorem dX11_toMeet_39 : decode cX11_toMeet 39 = .ok (.iload_n 2, 1) := by decide +kernel
theorem dX11_toMeet_40 : decode cX11_toMeet 40 = .ok (.iconst 1, 1) := by decide +kernel
theorem dX11_toMeet_41 : decode cX11_toMeet 41 = .ok (.invokevirtual 283, 3) := by decide +kernel
theorem dX11_toMeet_44 : decode cX11_toMeet 44 = .ok (.invokevirtual 317, 3) := by decide +kernel
theorem dX11_toMeet_47 : decode cX11_toMeet 47 = .ok (.ireturn, 1) := by decide +kernel
theorem dX11_partners_0 : decode cX11_partners 0 = .ok (.iload_n 1, 1) := by decide +kernel
theorem dX11_partners_1 : decode cX11_partners 1 = .ok (.iconst 1, 1) := by decide +kernel
theorem dX11_partners_2 : decode cX11_partners 2 = .ok (.invokestatic 273, 3) := by decide +kernel
theorem dX11_partners_5 : decode cX11_partners 5 = .ok (.iload_n 1, 1) := by decide +kernel
theorem dX11_partners_6 : decode cX11_partners 6 = .ok (.ifCond .ne 17, 3) := by decide +kernel
theorem dX11_partners_9 : decode cX11_partners 9 = .ok (.aload_n 0, 1) := by decide +kernel
theorem dX11_partners_10 : decode cX11_partners 10 = .ok (.getfield 78, 3) := by decide +kernel
theorem dX11_partners_13 : decode cX11_partners 13 = .ok (.aload_n 0, 1) := by decide +kernel
theorem dX11_partners_14 : decode cX11_partners 14 = .ok (.getfield 48, 3) := by decide +kernel
theorem dX11_partners_17 : decode cX11_partners 17 = .ok (.invokevirtual 321, 3) := by decide +kernel
theorem dX11_partners_20 : decode cX11_partners 20 = .ok (.goto 14, 3) := by decide +kernel
theorem dX11_partners_23 : decode cX11_partners 23 = .ok (.aload_n 0, 1) := by decide +kernel
theorem dX11_partners_24 : decode cX11_partners 24 = .ok (.getfield 78, 3) := by decide +kernel
theorem dX11_partners_27 : decode cX11_partners 27 = .ok (.aload_n 0, 1) := by decide +kernel
theorem dX11_partners_28 : decode cX11_partners 28 = .ok (.getfield 48, 3) := by decide +kernel
theorem dX11_partners_31 : decode cX11_partners 31 = .ok (.invokevirtual 323, 3) := by decide +kernel
theorem dX11_partners_34 : decode cX11_partners 34 = .ok (.ireturn, 1) := by decide +kernel
theorem dX11_halves_0 : decode cX11_halves 0 = .ok (.iload_n 1, 1) := by decide +kernel
theorem dX11_halves_1 : decode cX11_halves 1 = .ok (.iconst 1, 1) := by decide +kernel
theorem dX11_halves_2 : decode cX11_halves 2 = .ok (.invokestatic 273, 3) := by decide +kernel
theorem dX11_halves_5 : decode cX11_halves 5 = .ok (.aload_n 0, 1) := by decide +kernel
theorem dX11_halves_6 : decode cX11_halves 6 = .ok (.getfield 78, 3) := by decide +kernel
theorem dX11_halves_9 : decode cX11_halves 9 = .ok (.aload_n 0, 1) := by decide +kernel
theorem dX11_halves_10 : decode cX11_halves 10 = .ok (.getfield 48, 3) := by decide +kernel
theorem dX11_halves_13 : decode cX11_halves 13 = .ok (.invokevirtual 326, 3) := by decide +kernel
theorem dX11_halves_16 : decode cX11_halves 16 = .ok (.istore_n 2, 1) := by decide +kernel
theorem dX11_halves_17 : decode cX11_halves 17 = .ok (.iload_n 1, 1) := by decide +kernel
theorem dX11_halves_18 : decode cX11_halves 18 = .ok (.ifCond .ne 18, 3) := by decide +kernel
theorem dX11_halves_21 : decode cX11_halves 21 = .ok (.aload_n 0, 1) := by decide +kernel
theorem dX11_halves_22 : decode cX11_halves 22 = .ok (.getfield 78, 3) := by decide +kernel
theorem dX11_halves_25 : decode cX11_halves 25 = .ok (.aload_n 0, 1) := by decide +kernel
theorem dX11_halves_26 : decode cX11_halves 26 = .ok (.getfield 48, 3) := by decide +kernel
theorem dX11_halves_29 : decode cX11_halves 29 = .ok (.iload_n 2, 1) := by decide +kernel
theorem dX11_halves_30 : decode cX11_halves 30 = .ok (.invokevirtual 329, 3) := by decide +kernel
theorem dX11_halves_33 : decode cX11_halves 33 = .ok (.goto 4, 3) := by decide +kernel
theorem dX11_halves_36 : decode cX11_halves 36 = .ok (.iload_n 2, 1) := by decide +kernel
theorem dX11_halves_37 : decode cX11_halves 37 = .ok (.ireturn, 1) := by decide +kernel
theorem dX11_chain_0 : decode cX11_chain 0 = .ok (.aload_n 0, 1) := by decide +kernel
theorem dX11_chain_1 : decode cX11_chain 1 = .ok (.iload_n 1, 1) := by decide +kernel
theorem dX11_chain_2 : decode cX11_chain 2 = .ok (.invokevirtual 193, 3) := by decide +kernel
theorem dX11_chain_5 : decode cX11_chain 5 = .ok (.aload_n 0, 1) := by decide +kernel
theorem dX11_chain_6 : decode cX11_chain 6 = .ok (.iload_n 2, 1) := by decide +kernel
theorem dX11_chain_7 : decode cX11_chain 7 = .ok (.invokevirtual 193, 3) := by decide +kernel
theorem dX11_chain_10 : decode cX11_chain 10 = .ok (.aload_n 0, 1) := by decide +kernel
theorem dX11_chain_11 : decode cX11_chain 11 = .ok (.getfield 34, 3) := by decide +kernel
theorem dX11_chain_14 : decode cX11_chain 14 = .ok (.iload_n 1, 1) := by decide +kernel
theorem dX11_chain_15 : decode cX11_chain 15 = .ok (.iload_n 2, 1) := by decide +kernel
theorem dX11_chain_16 : decode cX11_chain 16 = .ok (.invokevirtual 332, 3) := by decide +kernel
theorem dX11_chain_19 : decode cX11_chain 19 = .ok (.ireturn, 1) := by decide +kernel
theorem dX11_see_0 : decode cX11_see 0 = .ok (.aload_n 0, 1) := by decide +kernel
theorem dX11_see_1 : decode cX11_see 1 = .ok (.iload_n 1, 1) := by decide +kernel
theorem dX11_see_2 : decode cX11_see 2 = .ok (.invokevirtual 193, 3) := by decide +kernel
theorem dX11_see_5 : decode cX11_see 5 = .ok (.aload_n 0, 1) := by decide +kernel
theorem dX11_see_6 : decode cX11_see 6 = .ok (.getfield 71, 3) := by decide +kernel
theorem dX11_see_9 : decode cX11_see 9 = .ok (.getfield 154, 3) := by decide +kernel
theorem dX11_see_12 : decode cX11_see 12 = .ok (.bipush 8, 2) := by decide +kernel
theorem dX11_see_14 : decode cX11_see 14 = .ok (.if_icmp .ge 24, 3) := by decide +kernel
theorem dX11_see_17 : decode cX11_see 17 = .ok (.iload_n 2, 1) := by decide +kernel
theorem dX11_see_18 : decode cX11_see 18 = .ok (.ifCond .lt 20, 3) := by decide +kernel
theorem dX11_see_21 : decode cX11_see 21 = .ok (.iload_n 2, 1) := by decide +kernel
theorem dX11_see_22 : decode cX11_see 22 = .ok (.bipush 20, 2) := by decide +kernel
theorem dX11_see_24 : decode cX11_see 24 = .ok (.if_icmp .gt 14, 3) := by decide +kernel
theorem dX11_see_27 : decode cX11_see 27 = .ok (.iload_n 3, 1) := by decide +kernel
theorem dX11_see_28 : decode cX11_see 28 = .ok (.iconst 1, 1) := by decide +kernel
theorem dX11_see_29 : decode cX11_see 29 = .ok (.if_icmp .lt 9, 3) := by decide +kernel
theorem dX11_see_32 : decode cX11_see 32 = .ok (.iload_n 3, 1) := by decide +kernel
theorem dX11_see_33 : decode cX11_see 33 = .ok (.bipush 12, 2) := by decide +kernel
theorem dX11_see_35 : decode cX11_see 35 = .ok (.if_icmp .le 9, 3) := by decide +kernel
theorem dX11_see_38 : decode cX11_see 38 = .ok (.aload_n 0, 1) := by decide +kernel
theorem dX11_see_39 : decode cX11_see 39 = .ok (.iconst 2, 1) := by decide +kernel
theorem dX11_see_40 : decode cX11_see 40 = .ok (.invokevirtual 246, 3) := by decide +kernel
theorem dX11_see_43 : decode cX11_see 43 = .ok (.ireturn, 1) := by decide +kernel
theorem dX11_see_44 : decode cX11_see 44 = .ok (.aload_n 0, 1) := by decide +kernel
theorem dX11_see_45 : decode cX11_see 45 = .ok (.getfield 71, 3) := by decide +kernel
theorem dX11_see_48 : decode cX11_see 48 = .ok (.iload_n 1, 1) := by decide +kernel
theorem dX11_see_49 : decode cX11_see 49 = .ok (.iload_n 2, 1) := by decide +kernel
theorem dX11_see_50 : decode cX11_see 50 = .ok (.iload_n 3, 1) := by decide +kernel
theorem dX11_see_51 : decode cX11_see 51 = .ok (.invokevirtual 335, 3) := by decide +kernel
theorem dX11_see_54 : decode cX11_see 54 = .ok (.aload_n 0, 1) := by decide +kernel
theorem dX11_see_55 : decode cX11_see 55 = .ok (.getfield 71, 3) := by decide +kernel
theorem dX11_see_58 : decode cX11_see 58 = .ok (.getfield 154, 3) := by decide +kernel
theorem dX11_see_61 : decode cX11_see 61 = .ok (.ireturn, 1) := by decide +kernel
theorem dX11_forget_0 : decode cX11_forget 0 = .ok (.aload_n 0, 1) := by decide +kernel
theorem dX11_forget_1 : decode cX11_forget 1 = .ok (.getfield 71, 3) := by decide +kernel
theorem dX11_forget_4 : decode cX11_forget 4 = .ok (.iconst 0, 1) := by decide +kernel
theorem dX11_forget_5 : decode cX11_forget 5 = .ok (.putfield 154, 3) := by decide +kernel
theorem dX11_forget_8 : decode cX11_forget 8 = .ok (.return_, 1) := by decide +kernel
theorem dX11_ranked_0 : decode cX11_ranked 0 = .ok (.iload_n 1, 1) := by decide +kernel
theorem dX11_ranked_1 : decode cX11_ranked 1 = .ok (.iconst 2, 1) := by decide +kernel
theorem dX11_ranked_2 : decode cX11_ranked 2 = .ok (.invokestatic 273, 3) := by decide +kernel
theorem dX11_ranked_5 : decode cX11_ranked 5 = .ok (.iload_n 1, 1) := by decide +kernel
theorem dX11_ranked_6 : decode cX11_ranked 6 = .ok (.iconst 2, 1) := by decide +kernel
theorem dX11_ranked_7 : decode cX11_ranked 7 = .ok (.if_icmp .ne 27, 3) := by decide +kernel
theorem dX11_ranked_10 : decode cX11_ranked 10 = .ok (.aload_n 0, 1) := by decide +kernel
theorem dX11_ranked_11 : decode cX11_ranked 11 = .ok (.getfield 87, 3) := by decide +kernel
theorem dX11_ranked_14 : decode cX11_ranked 14 = .ok (.aload_n 0, 1) := by decide +kernel
theorem dX11_ranked_15 : decode cX11_ranked 15 = .ok (.getfield 48, 3) := by decide +kernel
theorem dX11_ranked_18 : decode cX11_ranked 18 = .ok (.aload_n 0, 1) := by decide +kernel
theorem dX11_ranked_19 : decode cX11_ranked 19 = .ok (.getfield 71, 3) := by decide +kernel
theorem dX11_ranked_22 : decode cX11_ranked 22 = .ok (.invokevirtual 338, 3) := by decide +kernel
theorem dX11_ranked_25 : decode cX11_ranked 25 = .ok (.ifCond .eq 7, 3) := by decide +kernel
theorem dX11_ranked_28 : decode cX11_ranked 28 = .ok (.iconst 1, 1) := by decide +kernel
theorem dX11_ranked_29 : decode cX11_ranked 29 = .ok (.goto 4, 3) := by decide +kernel
theorem dX11_ranked_32 : decode cX11_ranked 32 = .ok (.iconst 0, 1) := by decide +kernel
theorem dX11_ranked_33 : decode cX11_ranked 33 = .ok (.ireturn, 1) := by decide +kernel
theorem dX11_ranked_34 : decode cX11_ranked 34 = .ok (.aload_n 0, 1) := by decide +kernel
theorem dX11_ranked_35 : decode cX11_ranked 35 = .ok (.getfield 87, 3) := by decide +kernel
theorem dX11_ranked_38 : decode cX11_ranked 38 = .ok (.aload_n 0, 1) := by decide +kernel
theorem dX11_ranked_39 : decode cX11_ranked 39 = .ok (.getfield 48, 3) := by decide +kernel
theorem dX11_ranked_42 : decode cX11_ranked 42 = .ok (.aload_n 0, 1) := by decide +kernel
theorem dX11_ranked_43 : decode cX11_ranked 43 = .ok (.getfield 71, 3) := by decide +kernel
theorem dX11_ranked_46 : decode cX11_ranked 46 = .ok (.iconst 0, 1) := by decide +kernel
theorem dX11_ranked_47 : decode cX11_ranked 47 = .ok (.invokevirtual 342, 3) := by decide +kernel
theorem dX11_ranked_50 : decode cX11_ranked 50 = .ok (.iload_n 1, 1) := by decide +kernel
theorem dX11_ranked_51 : decode cX11_ranked 51 = .ok (.ifCond .ne 13, 3) := by decide +kernel
theorem dX11_ranked_54 : decode cX11_ranked 54 = .ok (.aload_n 0, 1) := by decide +kernel
theorem dX11_ranked_55 : decode cX11_ranked 55 = .ok (.getfield 87, 3) := by decide +kernel
theorem dX11_ranked_58 : decode cX11_ranked 58 = .ok (.getfield 346, 3) := by decide +kernel
theorem dX11_ranked_61 : decode cX11_ranked 61 = .ok (.goto 10, 3) := by decide +kernel
theorem dX11_ranked_64 : decode cX11_ranked 64 = .ok (.aload_n 0, 1) := by decide +kernel
theorem dX11_ranked_65 : decode cX11_ranked 65 = .ok (.getfield 87, 3) := by decide +kernel
theorem dX11_ranked_68 : decode cX11_ranked 68 = .ok (.getfield 349, 3) := by decide +kernel
theorem dX11_ranked_71 : decode cX11_ranked 71 = .ok (.ireturn, 1) := by decide +kernel
theorem dX11_look_0 : decode cX11_look 0 = .ok (.iload_n 1, 1) := by decide +kernel
theorem dX11_look_1 : decode cX11_look 1 = .ok (.iconst 1, 1) := by decide +kernel
theorem dX11_look_2 : decode cX11_look 2 = .ok (.invokestatic 273, 3) := by decide +kernel
theorem dX11_look_5 : decode cX11_look 5 = .ok (.aload_n 0, 1) := by decide +kernel
theorem dX11_look_6 : decode cX11_look 6 = .ok (.getfield 87, 3) := by decide +kernel
theorem dX11_look_9 : decode cX11_look 9 = .ok (.aload_n 0, 1) := by decide +kernel
theorem dX11_look_10 : decode cX11_look 10 = .ok (.getfield 48, 3) := by decide +kernel
theorem dX11_look_13 : decode cX11_look 13 = .ok (.aload_n 0, 1) := by decide +kernel
theorem dX11_look_14 : decode cX11_look 14 = .ok (.getfield 71, 3) := by decide +kernel
theorem dX11_look_17 : decode cX11_look 17 = .ok (.iconst 1, 1) := by decide +kernel
theorem dX11_look_18 : decode cX11_look 18 = .ok (.invokevirtual 342, 3) := by decide +kernel
theorem dX11_look_21 : decode cX11_look 21 = .ok (.aload_n 0, 1) := by decide +kernel
theorem dX11_look_22 : decode cX11_look 22 = .ok (.getfield 87, 3) := by decide +kernel
theorem dX11_look_25 : decode cX11_look 25 = .ok (.aload_n 0, 1) := by decide +kernel
theorem dX11_look_26 : decode cX11_look 26 = .ok (.getfield 48, 3) := by decide +kernel
theorem dX11_look_29 : decode cX11_look 29 = .ok (.getfield 155, 3) := by decide +kernel
theorem dX11_look_32 : decode cX11_look 32 = .ok (.invokevirtual 352, 3) := by decide +kernel
theorem dX11_look_35 : decode cX11_look 35 = .ok (.istore_n 2, 1) := by decide +kernel
theorem dX11_look_36 : decode cX11_look 36 = .ok (.iload_n 1, 1) := by decide +kernel
theorem dX11_look_37 : decode cX11_look 37 = .ok (.ifCond .ne 5, 3) := by decide +kernel
theorem dX11_look_40 : decode cX11_look 40 = .ok (.iload_n 2, 1) := by decide +kernel
theorem dX11_look_41 : decode cX11_look 41 = .ok (.ireturn, 1) := by decide +kernel
theorem dX11_look_42 : decode cX11_look 42 = .ok (.iload_n 2, 1) := by decide +kernel
theorem dX11_look_43 : decode cX11_look 43 = .ok (.iconst (-1), 1) := by decide +kernel
theorem dX11_look_44 : decode cX11_look 44 = .ok (.if_icmp .ne 7, 3) := by decide +kernel
theorem dX11_look_47 : decode cX11_look 47 = .ok (.iconst 0, 1) := by decide +kernel
theorem dX11_look_48 : decode cX11_look 48 = .ok (.goto 11, 3) := by decide +kernel
theorem dX11_look_51 : decode cX11_look 51 = .ok (.aload_n 0, 1) := by decide +kernel
theorem dX11_look_52 : decode cX11_look 52 = .ok (.getfield 87, 3) := by decide +kernel
theorem dX11_look_55 : decode cX11_look 55 = .ok (.iload_n 2, 1) := by decide +kernel
theorem dX11_look_56 : decode cX11_look 56 = .ok (.invokevirtual 355, 3) := by decide +kernel
theorem dX11_look_59 : decode cX11_look 59 = .ok (.ireturn, 1) := by decide +kernel
theorem dX11_storms_0 : decode cX11_storms 0 = .ok (.aload_n 0, 1) := by decide +kernel
theorem dX11_storms_1 : decode cX11_storms 1 = .ok (.iload_n 1, 1) := by decide +kernel
theorem dX11_storms_2 : decode cX11_storms 2 = .ok (.invokevirtual 193, 3) := by decide +kernel
theorem dX11_storms_5 : decode cX11_storms 5 = .ok (.aload_n 0, 1) := by decide +kernel
theorem dX11_storms_6 : decode cX11_storms 6 = .ok (.iload_n 2, 1) := by decide +kernel
theorem dX11_storms_7 : decode cX11_storms 7 = .ok (.invokevirtual 193, 3) := by decide +kernel
theorem dX11_storms_10 : decode cX11_storms 10 = .ok (.iload_n 3, 1) := by decide +kernel
theorem dX11_storms_11 : decode cX11_storms 11 = .ok (.iconst 1, 1) := by decide +kernel
theorem dX11_storms_12 : decode cX11_storms 12 = .ok (.iconst 5, 1) := by decide +kernel
theorem dX11_storms_13 : decode cX11_storms 13 = .ok (.invokestatic 276, 3) := by decide +kernel
theorem dX11_storms_16 : decode cX11_storms 16 = .ok (.iload 4, 2) := by decide +kernel
theorem dX11_storms_18 : decode cX11_storms 18 = .ok (.iconst 0, 1) := by decide +kernel
theorem dX11_storms_19 : decode cX11_storms 19 = .ok (.bipush 10, 2) := by decide +kernel
theorem dX11_storms_21 : decode cX11_storms 21 = .ok (.invokestatic 276, 3) := by decide +kernel
theorem dX11_storms_24 : decode cX11_storms 24 = .ok (.aload_n 0, 1) := by decide +kernel
theorem dX11_storms_25 : decode cX11_storms 25 = .ok (.getfield 87, 3) := by decide +kernel
theorem dX11_storms_28 : decode cX11_storms 28 = .ok (.aload_n 0, 1) := by decide +kernel
theorem dX11_storms_29 : decode cX11_storms 29 = .ok (.getfield 48, 3) := by decide +kernel
theorem dX11_storms_32 : decode cX11_storms 32 = .ok (.iload_n 1, 1) := by decide +kernel
theorem dX11_storms_33 : decode cX11_storms 33 = .ok (.iload_n 2, 1) := by decide +kernel
theorem dX11_storms_34 : decode cX11_storms 34 = .ok (.iload_n 3, 1) := by decide +kernel
theorem dX11_storms_35 : decode cX11_storms 35 = .ok (.iload 4, 2) := by decide +kernel
theorem dX11_storms_37 : decode cX11_storms 37 = .ok (.invokevirtual 358, 3) := by decide +kernel
theorem dX11_storms_40 : decode cX11_storms 40 = .ok (.ireturn, 1) := by decide +kernel
theorem dX11_game_0 : decode cX11_game 0 = .ok (.aload_n 0, 1) := by decide +kernel
theorem dX11_game_1 : decode cX11_game 1 = .ok (.iload_n 1, 1) := by decide +kernel
theorem dX11_game_2 : decode cX11_game 2 = .ok (.invokevirtual 193, 3) := by decide +kernel
theorem dX11_game_5 : decode cX11_game 5 = .ok (.aload_n 0, 1) := by decide +kernel
theorem dX11_game_6 : decode cX11_game 6 = .ok (.iload_n 2, 1) := by decide +kernel
theorem dX11_game_7 : decode cX11_game 7 = .ok (.invokevirtual 193, 3) := by decide +kernel
theorem dX11_game_10 : decode cX11_game 10 = .ok (.iload_n 3, 1) := by decide +kernel
theorem dX11_game_11 : decode cX11_game 11 = .ok (.iconst 1, 1) := by decide +kernel
theorem dX11_game_12 : decode cX11_game 12 = .ok (.invokestatic 273, 3) := by decide +kernel
theorem dX11_game_15 : decode cX11_game 15 = .ok (.iload_n 1, 1) := by decide +kernel
theorem dX11_game_16 : decode cX11_game 16 = .ok (.iload_n 2, 1) := by decide +kernel
theorem dX11_game_17 : decode cX11_game 17 = .ok (.if_icmp .ne 14, 3) := by decide +kernel
theorem dX11_game_20 : decode cX11_game 20 = .ok (.new 108, 3) := by decide +kernel
theorem dX11_game_23 : decode cX11_game 23 = .ok (.dup, 1) := by decide +kernel
theorem dX11_game_24 : decode cX11_game 24 = .ok (.ldc_w 362, 3) := by decide +kernel
theorem dX11_game_27 : decode cX11_game 27 = .ok (.invokespecial 112, 3) := by decide +kernel
theorem dX11_game_30 : decode cX11_game 30 = .ok (.athrow, 1) := by decide +kernel
theorem dX11_game_31 : decode cX11_game 31 = .ok (.aload_n 0, 1) := by decide +kernel
theorem dX11_game_32 : decode cX11_game 32 = .ok (.getfield 87, 3) := by decide +kernel
theorem dX11_game_35 : decode cX11_game 35 = .ok (.aload_n 0, 1) := by decide +kernel
theorem dX11_game_36 : decode cX11_game 36 = .ok (.getfield 48, 3) := by decide +kernel
theorem dX11_game_39 : decode cX11_game 39 = .ok (.aload_n 0, 1) := by decide +kernel
theorem dX11_game_40 : decode cX11_game 40 = .ok (.getfield 34, 3) := by decide +kernel
theorem dX11_game_43 : decode cX11_game 43 = .ok (.iload_n 1, 1) := by decide +kernel
theorem dX11_game_44 : decode cX11_game 44 = .ok (.iload_n 2, 1) := by decide +kernel
theorem dX11_game_45 : decode cX11_game 45 = .ok (.invokevirtual 364, 3) := by decide +kernel
theorem dX11_game_48 : decode cX11_game 48 = .ok (.iload_n 3, 1) := by decide +kernel
theorem dX11_game_49 : decode cX11_game 49 = .ok (.ifCond .ne 13, 3) := by decide +kernel
theorem dX11_game_52 : decode cX11_game 52 = .ok (.aload_n 0, 1) := by decide +kernel
theorem dX11_game_53 : decode cX11_game 53 = .ok (.getfield 87, 3) := by decide +kernel
theorem dX11_game_56 : decode cX11_game 56 = .ok (.invokevirtual 368, 3) := by decide +kernel
theorem dX11_game_59 : decode cX11_game 59 = .ok (.goto 10, 3) := by decide +kernel
theorem dX11_game_62 : decode cX11_game 62 = .ok (.aload_n 0, 1) := by decide +kernel
theorem dX11_game_63 : decode cX11_game 63 = .ok (.getfield 87, 3) := by decide +kernel
theorem dX11_game_66 : decode cX11_game 66 = .ok (.invokevirtual 371, 3) := by decide +kernel
theorem dX11_game_69 : decode cX11_game 69 = .ok (.ireturn, 1) := by decide +kernel
theorem dX11_years_0 : decode cX11_years 0 = .ok (.iload_n 3, 1) := by decide +kernel
theorem dX11_years_1 : decode cX11_years 1 = .ok (.iconst 2, 1) := by decide +kernel
theorem dX11_years_2 : decode cX11_years 2 = .ok (.invokestatic 273, 3) := by decide +kernel
theorem dX11_years_5 : decode cX11_years 5 = .ok (.iload_n 2, 1) := by decide +kernel
theorem dX11_years_6 : decode cX11_years 6 = .ok (.iconst 0, 1) := by decide +kernel
theorem dX11_years_7 : decode cX11_years 7 = .ok (.bipush 100, 2) := by decide +kernel
theorem dX11_years_9 : decode cX11_years 9 = .ok (.invokestatic 276, 3) := by decide +kernel
theorem dX11_years_12 : decode cX11_years 12 = .ok (.aload_n 0, 1) := by decide +kernel
theorem dX11_years_13 : decode cX11_years 13 = .ok (.getfield 87, 3) := by decide +kernel
theorem dX11_years_16 : decode cX11_years 16 = .ok (.aload_n 0, 1) := by decide +kernel
theorem dX11_years_17 : decode cX11_years 17 = .ok (.getfield 48, 3) := by decide +kernel
theorem dX11_years_20 : decode cX11_years 20 = .ok (.iload_n 1, 1) := by decide +kernel
theorem dX11_years_21 : decode cX11_years 21 = .ok (.iload_n 2, 1) := by decide +kernel
theorem dX11_years_22 : decode cX11_years 22 = .ok (.iload_n 3, 1) := by decide +kernel
theorem dX11_years_23 : decode cX11_years 23 = .ok (.invokevirtual 374, 3) := by decide +kernel
theorem dX11_years_26 : decode cX11_years 26 = .ok (.ireturn, 1) := by decide +kernel
theorem dX11_ahead_0 : decode cX11_ahead 0 = .ok (.iload_n 2, 1) := by decide +kernel
theorem dX11_ahead_1 : decode cX11_ahead 1 = .ok (.iconst 3, 1) := by decide +kernel
theorem dX11_ahead_2 : decode cX11_ahead 2 = .ok (.invokestatic 273, 3) := by decide +kernel
theorem dX11_ahead_5 : decode cX11_ahead 5 = .ok (.iload_n 1, 1) := by decide +kernel
theorem dX11_ahead_6 : decode cX11_ahead 6 = .ok (.iconst 0, 1) := by decide +kernel
theorem dX11_ahead_7 : decode cX11_ahead 7 = .ok (.bipush 100, 2) := by decide +kernel
theorem dX11_ahead_9 : decode cX11_ahead 9 = .ok (.invokestatic 276, 3) := by decide +kernel
theorem dX11_ahead_12 : decode cX11_ahead 12 = .ok (.iload_n 2, 1) := by decide +kernel
theorem dX11_ahead_13 : decode cX11_ahead 13 = .ok (.tableswitch 60 0 2 #[27, 36, 48], 27) := by decide +kernel
theorem dX11_ahead_40 : decode cX11_ahead 40 = .ok (.aload_n 0, 1) := by decide +kernel
theorem dX11_ahead_41 : decode cX11_ahead 41 = .ok (.getfield 57, 3) := by decide +kernel
theorem dX11_ahead_44 : decode cX11_ahead 44 = .ok (.iload_n 1, 1) := by decide +kernel
theorem dX11_ahead_45 : decode cX11_ahead 45 = .ok (.invokevirtual 377, 3) := by decide +kernel
theorem dX11_ahead_48 : decode cX11_ahead 48 = .ok (.ireturn, 1) := by decide +kernel
theorem dX11_ahead_49 : decode cX11_ahead 49 = .ok (.aload_n 0, 1) := by decide +kernel
theorem dX11_ahead_50 : decode cX11_ahead 50 = .ok (.getfield 57, 3) := by decide +kernel
theorem dX11_ahead_53 : decode cX11_ahead 53 = .ok (.iload_n 1, 1) := by decide +kernel
theorem dX11_ahead_54 : decode cX11_ahead 54 = .ok (.invokevirtual 252, 3) := by decide +kernel
theorem dX11_ahead_57 : decode cX11_ahead 57 = .ok (.invokevirtual 380, 3) := by decide +kernel
theorem dX11_ahead_60 : decode cX11_ahead 60 = .ok (.ireturn, 1) := by decide +kernel
theorem dX11_ahead_61 : decode cX11_ahead 61 = .ok (.aload_n 0, 1) := by decide +kernel
theorem dX11_ahead_62 : decode cX11_ahead 62 = .ok (.getfield 57, 3) := by decide +kernel
theorem dX11_ahead_65 : decode cX11_ahead 65 = .ok (.iload_n 1, 1) := by decide +kernel
theorem dX11_ahead_66 : decode cX11_ahead 66 = .ok (.invokevirtual 252, 3) := by decide +kernel
theorem dX11_ahead_69 : decode cX11_ahead 69 = .ok (.invokevirtual 383, 3) := by decide +kernel
theorem dX11_ahead_72 : decode cX11_ahead 72 = .ok (.ireturn, 1) := by decide +kernel
theorem dX11_ahead_73 : decode cX11_ahead 73 = .ok (.aload_n 0, 1) := by decide +kernel
theorem dX11_ahead_74 : decode cX11_ahead 74 = .ok (.getfield 57, 3) := by decide +kernel
theorem dX11_ahead_77 : decode cX11_ahead 77 = .ok (.iload_n 1, 1) := by decide +kernel
theorem dX11_ahead_78 : decode cX11_ahead 78 = .ok (.invokevirtual 307, 3) := by decide +kernel
theorem dX11_ahead_81 : decode cX11_ahead 81 = .ok (.aload_n 0, 1) := by decide +kernel
theorem dX11_ahead_82 : decode cX11_ahead 82 = .ok (.getfield 48, 3) := by decide +kernel
theorem dX11_ahead_85 : decode cX11_ahead 85 = .ok (.getfield 155, 3) := by decide +kernel
theorem dX11_ahead_88 : decode cX11_ahead 88 = .ok (.invokevirtual 386, 3) := by decide +kernel
theorem dX11_ahead_91 : decode cX11_ahead 91 = .ok (.ireturn, 1) := by decide +kernel
theorem dX11_toJoin_0 : decode cX11_toJoin 0 = .ok (.aload_n 0, 1) := by decide +kernel
theorem dX11_toJoin_1 : decode cX11_toJoin 1 = .ok (.getfield 87, 3) := by decide +kernel
theorem dX11_toJoin_4 : decode cX11_toJoin 4 = .ok (.aload_n 0, 1) := by decide +kernel
theorem dX11_toJoin_5 : decode cX11_toJoin 5 = .ok (.getfield 48, 3) := by decide +kernel
theorem dX11_toJoin_8 : decode cX11_toJoin 8 = .ok (.aload_n 0, 1) := by decide +kernel
theorem dX11_toJoin_9 : decode cX11_toJoin 9 = .ok (.getfield 57, 3) := by decide +kernel
theorem dX11_toJoin_12 : decode cX11_toJoin 12 = .ok (.invokevirtual 314, 3) := by decide +kernel
theorem dX11_toJoin_15 : decode cX11_toJoin 15 = .ok (.invokevirtual 389, 3) := by decide +kernel
theorem dX11_toJoin_18 : decode cX11_toJoin 18 = .ok (.ireturn, 1) := by decide +kernel
theorem dX11_image_0 : decode cX11_image 0 = .ok (.aload_n 0, 1) := by decide +kernel
theorem dX11_image_1 : decode cX11_image 1 = .ok (.iconst 1, 1) := by decide +kernel
theorem dX11_image_2 : decode cX11_image 2 = .ok (.putfield 91, 3) := by decide +kernel
theorem dX11_image_5 : decode cX11_image 5 = .ok (.aload_n 0, 1) := by decide +kernel
theorem dX11_image_6 : decode cX11_image 6 = .ok (.getfield 95, 3) := by decide +kernel
theorem dX11_image_9 : decode cX11_image 9 = .ok (.aload_n 0, 1) := by decide +kernel
theorem dX11_image_10 : decode cX11_image 10 = .ok (.getfield 48, 3) := by decide +kernel
theorem dX11_image_13 : decode cX11_image 13 = .ok (.invokevirtual 126, 3) := by decide +kernel
theorem dX11_image_16 : decode cX11_image 16 = .ok (.aload_n 0, 1) := by decide +kernel
theorem dX11_image_17 : decode cX11_image 17 = .ok (.getfield 98, 3) := by decide +kernel
theorem dX11_image_20 : decode cX11_image 20 = .ok (.aload_n 0, 1) := by decide +kernel
theorem dX11_image_21 : decode cX11_image 21 = .ok (.getfield 64, 3) := by decide +kernel
theorem dX11_image_24 : decode cX11_image 24 = .ok (.invokevirtual 392, 3) := by decide +kernel
theorem dX11_image_27 : decode cX11_image 27 = .ok (.aload_n 0, 1) := by decide +kernel
theorem dX11_image_28 : decode cX11_image 28 = .ok (.getfield 101, 3) := by decide +kernel
theorem dX11_image_31 : decode cX11_image 31 = .ok (.aload_n 0, 1) := by decide +kernel
theorem dX11_image_32 : decode cX11_image 32 = .ok (.getfield 71, 3) := by decide +kernel
theorem dX11_image_35 : decode cX11_image 35 = .ok (.invokevirtual 395, 3) := by decide +kernel
theorem dX11_image_38 : decode cX11_image 38 = .ok (.return_, 1) := by decide +kernel
theorem dX11_restore_0 : decode cX11_restore 0 = .ok (.aload_n 0, 1) := by decide +kernel
theorem dX11_restore_1 : decode cX11_restore 1 = .ok (.getfield 91, 3) := by decide +kernel
theorem dX11_restore_4 : decode cX11_restore 4 = .ok (.ifCond .ne 5, 3) := by decide +kernel
theorem dX11_restore_7 : decode cX11_restore 7 = .ok (.iconst 0, 1) := by decide +kernel
theorem dX11_restore_8 : decode cX11_restore 8 = .ok (.ireturn, 1) := by decide +kernel
theorem dX11_restore_9 : decode cX11_restore 9 = .ok (.aload_n 0, 1) := by decide +kernel
theorem dX11_restore_10 : decode cX11_restore 10 = .ok (.getfield 48, 3) := by decide +kernel
theorem dX11_restore_13 : decode cX11_restore 13 = .ok (.aload_n 0, 1) := by decide +kernel
theorem dX11_restore_14 : decode cX11_restore 14 = .ok (.getfield 95, 3) := by decide +kernel
theorem dX11_restore_17 : decode cX11_restore 17 = .ok (.invokevirtual 126, 3) := by decide +kernel
theorem dX11_restore_20 : decode cX11_restore 20 = .ok (.aload_n 0, 1) := by decide +kernel
theorem dX11_restore_21 : decode cX11_restore 21 = .ok (.getfield 57, 3) := by decide +kernel
theorem dX11_restore_24 : decode cX11_restore 24 = .ok (.invokevirtual 148, 3) := by decide +kernel
theorem dX11_restore_27 : decode cX11_restore 27 = .ok (.aload_n 0, 1) := by decide +kernel
theorem dX11_restore_28 : decode cX11_restore 28 = .ok (.getfield 64, 3) := by decide +kernel
theorem dX11_restore_31 : decode cX11_restore 31 = .ok (.aload_n 0, 1) := by decide +kernel
theorem dX11_restore_32 : decode cX11_restore 32 = .ok (.getfield 98, 3) := by decide +kernel
theorem dX11_restore_35 : decode cX11_restore 35 = .ok (.invokevirtual 392, 3) := by decide +kernel
theorem dX11_restore_38 : decode cX11_restore 38 = .ok (.aload_n 0, 1) := by decide +kernel
theorem dX11_restore_39 : decode cX11_restore 39 = .ok (.getfield 71, 3) := by decide +kernel
theorem dX11_restore_42 : decode cX11_restore 42 = .ok (.aload_n 0, 1) := by decide +kernel
theorem dX11_restore_43 : decode cX11_restore 43 = .ok (.getfield 101, 3) := by decide +kernel
theorem dX11_restore_46 : decode cX11_restore 46 = .ok (.invokevirtual 395, 3) := by decide +kernel
theorem dX11_restore_49 : decode cX11_restore 49 = .ok (.iconst 1, 1) := by decide +kernel
theorem dX11_restore_50 : decode cX11_restore 50 = .ok (.ireturn, 1) := by decide +kernel
theorem dX11_needPerson_0 : decode cX11_needPerson 0 = .ok (.iload_n 1, 1) := by decide +kernel
theorem dX11_needPerson_1 : decode cX11_needPerson 1 = .ok (.ifCond .lt 14, 3) := by decide +kernel
theorem dX11_needPerson_4 : decode cX11_needPerson 4 = .ok (.iload_n 1, 1) := by decide +kernel
theorem dX11_needPerson_5 : decode cX11_needPerson 5 = .ok (.aload_n 0, 1) := by decide +kernel
theorem dX11_needPerson_6 : decode cX11_needPerson 6 = .ok (.getfield 48, 3) := by decide +kernel
theorem dX11_needPerson_9 : decode cX11_needPerson 9 = .ok (.getfield 155, 3) := by decide +kernel
theorem dX11_needPerson_12 : decode cX11_needPerson 12 = .ok (.if_icmp .lt 14, 3) := by decide +kernel
theorem dX11_needPerson_15 : decode cX11_needPerson 15 = .ok (.new 188, 3) := by decide +kernel
theorem dX11_needPerson_18 : decode cX11_needPerson 18 = .ok (.dup, 1) := by decide +kernel
theorem dX11_needPerson_19 : decode cX11_needPerson 19 = .ok (.ldc_w 398, 3) := by decide +kernel
theorem dX11_needPerson_22 : decode cX11_needPerson 22 = .ok (.invokespecial 192, 3) := by decide +kernel
theorem dX11_needPerson_25 : decode cX11_needPerson 25 = .ok (.athrow, 1) := by decide +kernel
theorem dX11_needPerson_26 : decode cX11_needPerson 26 = .ok (.return_, 1) := by decide +kernel
theorem dX11_needHouse_0 : decode cX11_needHouse 0 = .ok (.iload_n 1, 1) := by decide +kernel
theorem dX11_needHouse_1 : decode cX11_needHouse 1 = .ok (.ifCond .lt 14, 3) := by decide +kernel
theorem dX11_needHouse_4 : decode cX11_needHouse 4 = .ok (.iload_n 1, 1) := by decide +kernel
theorem dX11_needHouse_5 : decode cX11_needHouse 5 = .ok (.aload_n 0, 1) := by decide +kernel
theorem dX11_needHouse_6 : decode cX11_needHouse 6 = .ok (.getfield 48, 3) := by decide +kernel
theorem dX11_needHouse_9 : decode cX11_needHouse 9 = .ok (.getfield 158, 3) := by decide +kernel
theorem dX11_needHouse_12 : decode cX11_needHouse 12 = .ok (.if_icmp .lt 14, 3) := by decide +kernel
theorem dX11_needHouse_15 : decode cX11_needHouse 15 = .ok (.new 188, 3) := by decide +kernel
theorem dX11_needHouse_18 : decode cX11_needHouse 18 = .ok (.dup, 1) := by decide +kernel
theorem dX11_needHouse_19 : decode cX11_needHouse 19 = .ok (.ldc_w 400, 3) := by decide +kernel
theorem dX11_needHouse_22 : decode cX11_needHouse 22 = .ok (.invokespecial 192, 3) := by decide +kernel
theorem dX11_needHouse_25 : decode cX11_needHouse 25 = .ok (.athrow, 1) := by decide +kernel
theorem dX11_needHouse_26 : decode cX11_needHouse 26 = .ok (.return_, 1) := by decide +kernel
theorem dX11_needWhat_0 : decode cX11_needWhat 0 = .ok (.iload_n 0, 1) := by decide +kernel
theorem dX11_needWhat_1 : decode cX11_needWhat 1 = .ok (.ifCond .lt 8, 3) := by decide +kernel
theorem dX11_needWhat_4 : decode cX11_needWhat 4 = .ok (.iload_n 0, 1) := by decide +kernel
theorem dX11_needWhat_5 : decode cX11_needWhat 5 = .ok (.iload_n 1, 1) := by decide +kernel
theorem dX11_needWhat_6 : decode cX11_needWhat 6 = .ok (.if_icmp .le 14, 3) := by decide +kernel
theorem dX11_needWhat_9 : decode cX11_needWhat 9 = .ok (.new 188, 3) := by decide +kernel
theorem dX11_needWhat_12 : decode cX11_needWhat 12 = .ok (.dup, 1) := by decide +kernel
theorem dX11_needWhat_13 : decode cX11_needWhat 13 = .ok (.ldc_w 402, 3) := by decide +kernel
theorem dX11_needWhat_16 : decode cX11_needWhat 16 = .ok (.invokespecial 192, 3) := by decide +kernel
theorem dX11_needWhat_19 : decode cX11_needWhat 19 = .ok (.athrow, 1) := by decide +kernel
theorem dX11_needWhat_20 : decode cX11_needWhat 20 = .ok (.return_, 1) := by decide +kernel
theorem dX11_needWithin_0 : decode cX11_needWithin 0 = .ok (.iload_n 0, 1) := by decide +kernel
theorem dX11_needWithin_1 : decode cX11_needWithin 1 = .ok (.iload_n 1, 1) := by decide +kernel
theorem dX11_needWithin_2 : decode cX11_needWithin 2 = .ok (.if_icmp .lt 8, 3) := by decide +kernel
theorem dX11_needWithin_5 : decode cX11_needWithin 5 = .ok (.iload_n 0, 1) := by decide +kernel
theorem dX11_needWithin_6 : decode cX11_needWithin 6 = .ok (.iload_n 2, 1) := by decide +kernel
theorem dX11_needWithin_7 : decode cX11_needWithin 7 = .ok (.if_icmp .le 14, 3) := by decide +kernel
theorem dX11_needWithin_10 : decode cX11_needWithin 10 = .ok (.new 108, 3) := by decide +kernel
theorem dX11_needWithin_13 : decode cX11_needWithin 13 = .ok (.dup, 1) := by decide +kernel
theorem dX11_needWithin_14 : decode cX11_needWithin 14 = .ok (.ldc_w 404, 3) := by decide +kernel
theorem dX11_needWithin_17 : decode cX11_needWithin 17 = .ok (.invokespecial 112, 3) := by decide +kernel
theorem dX11_needWithin_20 : decode cX11_needWithin 20 = .ok (.athrow, 1) := by decide +kernel
theorem dX11_needWithin_21 : decode cX11_needWithin 21 = .ok (.return_, 1) := by decide +kernel
theorem dX11_refuse_0 : decode cX11_refuse 0 = .ok (.aload_n 0, 1) := by decide +kernel
theorem dX11_refuse_1 : decode cX11_refuse 1 = .ok (.getfield 20, 3) := by decide +kernel
theorem dX11_refuse_4 : decode cX11_refuse 4 = .ok (.iload_n 1, 1) := by decide +kernel
theorem dX11_refuse_5 : decode cX11_refuse 5 = .ok (.dup2, 1) := by decide +kernel
theorem dX11_refuse_6 : decode cX11_refuse 6 = .ok (.iaload, 1) := by decide +kernel
theorem dX11_refuse_7 : decode cX11_refuse 7 = .ok (.iconst 1, 1) := by decide +kernel
theorem dX11_refuse_8 : decode cX11_refuse 8 = .ok (.iadd, 1) := by decide +kernel
theorem dX11_refuse_9 : decode cX11_refuse 9 = .ok (.iastore, 1) := by decide +kernel
theorem dX11_refuse_10 : decode cX11_refuse 10 = .ok (.iconst (-1), 1) := by decide +kernel
theorem dX11_refuse_11 : decode cX11_refuse 11 = .ok (.ireturn, 1) := by decide +kernel
theorem dX12_init_0 : decode cX12_init 0 = .ok (.aload_n 0, 1) := by decide +kernel
theorem dX12_init_1 : decode cX12_init 1 = .ok (.invokespecial 1, 3) := by decide +kernel
theorem dX12_init_4 : decode cX12_init 4 = .ok (.aload_n 0, 1) := by decide +kernel
theorem dX12_init_5 : decode cX12_init 5 = .ok (.iconst (-1), 1) := by decide +kernel
theorem dX12_init_6 : decode cX12_init 6 = .ok (.putfield 9, 3) := by decide +kernel
theorem dX12_init_9 : decode cX12_init 9 = .ok (.aload_n 0, 1) := by decide +kernel
theorem dX12_init_10 : decode cX12_init 10 = .ok (.iconst (-1), 1) := by decide +kernel
theorem dX12_init_11 : decode cX12_init 11 = .ok (.putfield 13, 3) := by decide +kernel
theorem dX12_init_14 : decode cX12_init 14 = .ok (.aload_n 0, 1) := by decide +kernel
theorem dX12_init_15 : decode cX12_init 15 = .ok (.bipush 24, 2) := by decide +kernel
theorem dX12_init_17 : decode cX12_init 17 = .ok (.newarray .int, 2) := by decide +kernel
theorem dX12_init_19 : decode cX12_init 19 = .ok (.putfield 16, 3) := by decide +kernel
theorem dX12_init_22 : decode cX12_init 22 = .ok (.aload_n 0, 1) := by decide +kernel
theorem dX12_init_23 : decode cX12_init 23 = .ok (.sipush 1400, 3) := by decide +kernel
theorem dX12_init_26 : decode cX12_init 26 = .ok (.newarray .int, 2) := by decide +kernel
theorem dX12_init_28 : decode cX12_init 28 = .ok (.putfield 20, 3) := by decide +kernel
theorem dX12_init_31 : decode cX12_init 31 = .ok (.aload_n 0, 1) := by decide +kernel
theorem dX12_init_32 : decode cX12_init 32 = .ok (.sipush 700, 3) := by decide +kernel
theorem dX12_init_35 : decode cX12_init 35 = .ok (.newarray .int, 2) := by decide +kernel
theorem dX12_init_37 : decode cX12_init 37 = .ok (.putfield 23, 3) := by decide +kernel
theorem dX12_init_40 : decode cX12_init 40 = .ok (.aload_n 0, 1) := by decide +kernel
theorem dX12_init_41 : decode cX12_init 41 = .ok (.iconst (-1), 1) := by decide +kernel
theorem dX12_init_42 : decode cX12_init 42 = .ok (.putfield 26, 3) := by decide +kernel
theorem dX12_init_45 : decode cX12_init 45 = .ok (.aload_n 0, 1) := by decide +kernel
theorem dX12_init_46 : decode cX12_init 46 = .ok (.iconst 3, 1) := by decide +kernel
theorem dX12_init_47 : decode cX12_init 47 = .ok (.newarray .int, 2) := by decide +kernel
theorem dX12_init_49 : decode cX12_init 49 = .ok (.putfield 29, 3) := by decide +kernel
theorem dX12_init_52 : decode cX12_init 52 = .ok (.aload_n 0, 1) := by decide +kernel
theorem dX12_init_53 : decode cX12_init 53 = .ok (.bipush 24, 2) := by decide +kernel
theorem dX12_init_55 : decode cX12_init 55 = .ok (.newarray .int, 2) := by decide +kernel
theorem dX12_init_57 : decode cX12_init 57 = .ok (.putfield 32, 3) := by decide +kernel
theorem dX12_init_60 : decode cX12_init 60 = .ok (.aload_n 0, 1) := by decide +kernel
theorem dX12_init_61 : decode cX12_init 61 = .ok (.bipush 86, 2) := by decide +kernel
theorem dX12_init_63 : decode cX12_init 63 = .ok (.newarray .int, 2) := by decide +kernel
theorem dX12_init_65 : decode cX12_init 65 = .ok (.putfield 35, 3) := by decide +kernel
theorem dX12_init_68 : decode cX12_init 68 = .ok (.aload_n 0, 1) := by decide +kernel
theorem dX12_init_69 : decode cX12_init 69 = .ok (.sipush 1400, 3) := by decide +kernel
theorem dX12_init_72 : decode cX12_init 72 = .ok (.newarray .int, 2) := by decide +kernel
theorem dX12_init_74 : decode cX12_init 74 = .ok (.putfield 38, 3) := by decide +kernel
theorem dX12_init_77 : decode cX12_init 77 = .ok (.aload_n 0, 1) := by decide +kernel
theorem dX12_init_78 : decode cX12_init 78 = .ok (.sipush 950, 3) := by decide +kernel
theorem dX12_init_81 : decode cX12_init 81 = .ok (.newarray .int, 2) := by decide +kernel
theorem dX12_init_83 : decode cX12_init 83 = .ok (.putfield 41, 3) := by decide +kernel
theorem dX12_init_86 : decode cX12_init 86 = .ok (.aload_n 0, 1) := by decide +kernel
theorem dX12_init_87 : decode cX12_init 87 = .ok (.bipush 9, 2) := by decide +kernel
theorem dX12_init_89 : decode cX12_init 89 = .ok (.newarray .boolean, 2) := by decide +kernel
theorem dX12_init_91 : decode cX12_init 91 = .ok (.putfield 44, 3) := by decide +kernel
theorem dX12_init_94 : decode cX12_init 94 = .ok (.aload_n 0, 1) := by decide +kernel
theorem dX12_init_95 : decode cX12_init 95 = .ok (.sipush 172, 3) := by decide +kernel
theorem dX12_init_98 : decode cX12_init 98 = .ok (.newarray .int, 2) := by decide +kernel
theorem dX12_init_100 : decode cX12_init 100 = .ok (.putfield 48, 3) := by decide +kernel
theorem dX12_init_103 : decode cX12_init 103 = .ok (.aload_n 0, 1) := by decide +kernel
theorem dX12_init_104 : decode cX12_init 104 = .ok (.sipush 3440, 3) := by decide +kernel
theorem dX12_init_107 : decode cX12_init 107 = .ok (.newarray .int, 2) := by decide +kernel
theorem dX12_init_109 : decode cX12_init 109 = .ok (.putfield 51, 3) := by decide +kernel
theorem dX12_init_112 : decode cX12_init 112 = .ok (.aload_n 0, 1) := by decide +kernel
theorem dX12_init_113 : decode cX12_init 113 = .ok (.bipush 9, 2) := by decide +kernel
theorem dX12_init_115 : decode cX12_init 115 = .ok (.newarray .int, 2) := by decide +kernel
theorem dX12_init_117 : decode cX12_init 117 = .ok (.putfield 54, 3) := by decide +kernel
theorem dX12_init_120 : decode cX12_init 120 = .ok (.aload_n 0, 1) := by decide +kernel
theorem dX12_init_121 : decode cX12_init 121 = .ok (.sipush 950, 3) := by decide +kernel
theorem dX12_init_124 : decode cX12_init 124 = .ok (.newarray .int, 2) := by decide +kernel
theorem dX12_init_126 : decode cX12_init 126 = .ok (.putfield 57, 3) := by decide +kernel
theorem dX12_init_129 : decode cX12_init 129 = .ok (.aload_n 0, 1) := by decide +kernel
theorem dX12_init_130 : decode cX12_init 130 = .ok (.bipush 12, 2) := by decide +kernel
theorem dX12_init_132 : decode cX12_init 132 = .ok (.newarray .int, 2) := by decide +kernel
theorem dX12_init_134 : decode cX12_init 134 = .ok (.putfield 60, 3) := by decide +kernel
theorem dX12_init_137 : decode cX12_init 137 = .ok (.aload_n 0, 1) := by decide +kernel
theorem dX12_init_138 : decode cX12_init 138 = .ok (.bipush 12, 2) := by decide +kernel
theorem dX12_init_140 : decode cX12_init 140 = .ok (.newarray .int, 2) := by decide +kernel
theorem dX12_init_142 : decode cX12_init 142 = .ok (.putfield 63, 3) := by decide +kernel
theorem dX12_init_145 : decode cX12_init 145 = .ok (.aload_n 0, 1) := by decide +kernel
theorem dX12_init_146 : decode cX12_init 146 = .ok (.sipush 2412, 3) := by decide +kernel
theorem dX12_init_149 : decode cX12_init 149 = .ok (.newarray .int, 2) := by decide +kernel
theorem dX12_init_151 : decode cX12_init 151 = .ok (.putfield 66, 3) := by decide +kernel
theorem dX12_init_154 : decode cX12_init 154 = .ok (.aload_n 0, 1) := by decide +kernel
theorem dX12_init_155 : decode cX12_init 155 = .ok (.bipush 12, 2) := by decide +kernel
theorem dX12_init_157 : decode cX12_init 157 = .ok (.newarray .int, 2) := by decide +kernel
theorem dX12_init_159 : decode cX12_init 159 = .ok (.putfield 69, 3) := by decide +kernel
theorem dX12_init_162 : decode cX12_init 162 = .ok (.aload_n 0, 1) := by decide +kernel
theorem dX12_init_163 : decode cX12_init 163 = .ok (.bipush 12, 2) := by decide +kernel
theorem dX12_init_165 : decode cX12_init 165 = .ok (.newarray .int, 2) := by decide +kernel
theorem dX12_init_167 : decode cX12_init 167 = .ok (.putfield 72, 3) := by decide +kernel
theorem dX12_init_170 : decode cX12_init 170 = .ok (.aload_n 0, 1) := by decide +kernel
theorem dX12_init_171 : decode cX12_init 171 = .ok (.sipush 4096, 3) := by decide +kernel
theorem dX12_init_174 : decode cX12_init 174 = .ok (.newarray .int, 2) := by decide +kernel
theorem dX12_init_176 : decode cX12_init 176 = .ok (.putfield 75, 3) := by decide +kernel
theorem dX12_init_179 : decode cX12_init 179 = .ok (.aload_n 0, 1) := by decide +kernel
theorem dX12_init_180 : decode cX12_init 180 = .ok (.bipush 24, 2) := by decide +kernel
theorem dX12_init_182 : decode cX12_init 182 = .ok (.newarray .int, 2) := by decide +kernel
theorem dX12_init_184 : decode cX12_init 184 = .ok (.putfield 78, 3) := by decide +kernel
theorem dX12_init_187 : decode cX12_init 187 = .ok (.aload_n 0, 1) := by decide +kernel
theorem dX12_init_188 : decode cX12_init 188 = .ok (.bipush 12, 2) := by decide +kernel
theorem dX12_init_190 : decode cX12_init 190 = .ok (.newarray .int, 2) := by decide +kernel
theorem dX12_init_192 : decode cX12_init 192 = .ok (.putfield 81, 3) := by decide +kernel
theorem dX12_init_195 : decode cX12_init 195 = .ok (.aload_n 0, 1) := by decide +kernel
theorem dX12_init_196 : decode cX12_init 196 = .ok (.bipush 12, 2) := by decide +kernel
theorem dX12_init_198 : decode cX12_init 198 = .ok (.newarray .int, 2) := by decide +kernel
theorem dX12_init_200 : decode cX12_init 200 = .ok (.putfield 84, 3) := by decide +kernel
theorem dX12_init_203 : decode cX12_init 203 = .ok (.aload_n 0, 1) := by decide +kernel
theorem dX12_init_204 : decode cX12_init 204 = .ok (.bipush 86, 2) := by decide +kernel
theorem dX12_init_206 : decode cX12_init 206 = .ok (.newarray .int, 2) := by decide +kernel
theorem dX12_init_208 : decode cX12_init 208 = .ok (.putfield 87, 3) := by decide +kernel
theorem dX12_init_211 : decode cX12_init 211 = .ok (.aload_n 0, 1) := by decide +kernel
theorem dX12_init_212 : decode cX12_init 212 = .ok (.sipush 3440, 3) := by decide +kernel
theorem dX12_init_215 : decode cX12_init 215 = .ok (.newarray .int, 2) := by decide +kernel
theorem dX12_init_217 : decode cX12_init 217 = .ok (.putfield 90, 3) := by decide +kernel
theorem dX12_init_220 : decode cX12_init 220 = .ok (.aload_n 0, 1) := by decide +kernel
theorem dX12_init_221 : decode cX12_init 221 = .ok (.bipush 24, 2) := by decide +kernel
theorem dX12_init_223 : decode cX12_init 223 = .ok (.newarray .int, 2) := by decide +kernel
theorem dX12_init_225 : decode cX12_init 225 = .ok (.putfield 93, 3) := by decide +kernel
theorem dX12_init_228 : decode cX12_init 228 = .ok (.return_, 1) := by decide +kernel
theorem dX12_thrown_0 : decode cX12_thrown 0 = .ok (.aload_n 0, 1) := by decide +kernel
theorem dX12_thrown_1 : decode cX12_thrown 1 = .ok (.getfield 96, 3) := by decide +kernel
theorem dX12_thrown_4 : decode cX12_thrown 4 = .ok (.ireturn, 1) := by decide +kernel
theorem dX12_right_0 : decode cX12_right 0 = .ok (.aload_n 0, 1) := by decide +kernel
theorem dX12_right_1 : decode cX12_right 1 = .ok (.getfield 96, 3) := by decide +kernel
theorem dX12_right_4 : decode cX12_right 4 = .ok (.ifCond .ne 12, 3) := by decide +kernel
theorem dX12_right_7 : decode cX12_right 7 = .ok (.iload_n 1, 1) := by decide +kernel
theorem dX12_right_8 : decode cX12_right 8 = .ok (.ifCond .ne 8, 3) := by decide +kernel
theorem dX12_right_11 : decode cX12_right 11 = .ok (.aload_n 0, 1) := by decide +kernel
theorem dX12_right_12 : decode cX12_right 12 = .ok (.iload_n 2, 1) := by decide +kernel
theorem dX12_right_13 : decode cX12_right 13 = .ok (.putfield 96, 3) := by decide +kernel
theorem dX12_right_16 : decode cX12_right 16 = .ok (.aload_n 0, 1) := by decide +kernel
theorem dX12_right_17 : decode cX12_right 17 = .ok (.getfield 96, 3) := by decide +kernel
theorem dX12_right_20 : decode cX12_right 20 = .ok (.ifCond .ne 7, 3) := by decide +kernel
theorem dX12_right_23 : decode cX12_right 23 = .ok (.iconst 1, 1) := by decide +kernel
theorem dX12_right_24 : decode cX12_right 24 = .ok (.goto 4, 3) := by decide +kernel
theorem dX12_right_27 : decode cX12_right 27 = .ok (.iconst 0, 1) := by decide +kernel
theorem dX12_right_28 : decode cX12_right 28 = .ok (.ireturn, 1) := by decide +kernel
theorem dX12_within_0 : decode cX12_within 0 = .ok (.iload_n 0, 1) := by decide +kernel
theorem dX12_within_1 : decode cX12_within 1 = .ok (.iload_n 1, 1) := by decide +kernel
theorem dX12_within_2 : decode cX12_within 2 = .ok (.if_icmp .lt 12, 3) := by decide +kernel
theorem dX12_within_5 : decode cX12_within 5 = .ok (.iload_n 0, 1) := by decide +kernel
theorem dX12_within_6 : decode cX12_within 6 = .ok (.iload_n 2, 1) := by decide +kernel
theorem dX12_within_7 : decode cX12_within 7 = .ok (.if_icmp .gt 7, 3) := by decide +kernel
theorem dX12_within_10 : decode cX12_within 10 = .ok (.iconst 1, 1) := by decide +kernel
theorem dX12_within_11 : decode cX12_within 11 = .ok (.goto 4, 3) := by decide +kernel
theorem dX12_within_14 : decode cX12_within 14 = .ok (.iconst 0, 1) := by decide +kernel
theorem dX12_within_15 : decode cX12_within 15 = .ok (.ireturn, 1) := by decide +kernel
theorem dX12_lesser_0 : decode cX12_lesser 0 = .ok (.iload_n 0, 1) := by decide +kernel
theorem dX12_lesser_1 : decode cX12_lesser 1 = .ok (.iload_n 1, 1) := by decide +kernel
theorem dX12_lesser_2 : decode cX12_lesser 2 = .ok (.if_icmp .ge 7, 3) := by decide +kernel
theorem dX12_lesser_5 : decode cX12_lesser 5 = .ok (.iload_n 0, 1) := by decide +kernel
theorem dX12_lesser_6 : decode cX12_lesser 6 = .ok (.goto 4, 3) := by decide +kernel
theorem dX12_lesser_9 : decode cX12_lesser 9 = .ok (.iload_n 1, 1) := by decide +kernel
theorem dX12_lesser_10 : decode cX12_lesser 10 = .ok (.ireturn, 1) := by decide +kernel
theorem dX12_apart_0 : decode cX12_apart 0 = .ok (.iload_n 0, 1) := by decide +kernel
theorem dX12_apart_1 : decode cX12_apart 1 = .ok (.iload_n 1, 1) := by decide +kernel
theorem dX12_apart_2 : decode cX12_apart 2 = .ok (.if_icmp .ge 9, 3) := by decide +kernel
theorem dX12_apart_5 : decode cX12_apart 5 = .ok (.iload_n 1, 1) := by decide +kernel
theorem dX12_apart_6 : decode cX12_apart 6 = .ok (.iload_n 0, 1) := by decide +kernel
theorem dX12_apart_7 : decode cX12_apart 7 = .ok (.isub, 1) := by decide +kernel
theorem dX12_apart_8 : decode cX12_apart 8 = .ok (.goto 6, 3) := by decide +kernel
theorem dX12_apart_11 : decode cX12_apart 11 = .ok (.iload_n 0, 1) := by decide +kernel
theorem dX12_apart_12 : decode cX12_apart 12 = .ok (.iload_n 1, 1) := by decide +kernel
theorem dX12_apart_13 : decode cX12_apart 13 = .ok (.isub, 1) := by decide +kernel
theorem dX12_apart_14 : decode cX12_apart 14 = .ok (.ireturn, 1) := by decide +kernel
theorem dX12_copies_0 : decode cX12_copies 0 = .ok (.iconst 0, 1) := by decide +kernel
theorem dX12_copies_1 : decode cX12_copies 1 = .ok (.istore_n 3, 1) := by decide +kernel
theorem dX12_copies_2 : decode cX12_copies 2 = .ok (.iload_n 3, 1) := by decide +kernel
theorem dX12_copies_3 : decode cX12_copies 3 = .ok (.aload_n 1, 1) := by decide +kernel
theorem dX12_copies_4 : decode cX12_copies 4 = .ok (.arraylength, 1) := by decide +kernel
theorem dX12_copies_5 : decode cX12_copies 5 = .ok (.if_icmp .ge 15, 3) := by decide +kernel
theorem dX12_copies_8 : decode cX12_copies 8 = .ok (.aload_n 2, 1) := by decide +kernel
theorem dX12_copies_9 : decode cX12_copies 9 = .ok (.iload_n 3, 1) := by decide +kernel
theorem dX12_copies_10 : decode cX12_copies 10 = .ok (.aload_n 1, 1) := by decide +kernel
theorem dX12_copies_11 : decode cX12_copies 11 = .ok (.iload_n 3, 1) := by decide +kernel
theorem dX12_copies_12 : decode cX12_copies 12 = .ok (.iaload, 1) := by decide +kernel
theorem dX12_copies_13 : decode cX12_copies 13 = .ok (.iastore, 1) := by decide +kernel
theorem dX12_copies_14 : decode cX12_copies 14 = .ok (.iinc 3 1, 3) := by decide +kernel
theorem dX12_copies_17 : decode cX12_copies 17 = .ok (.goto (-15), 3) := by decide +kernel
theorem dX12_copies_20 : decode cX12_copies 20 = .ok (.return_, 1) := by decide +kernel
theorem dX12_bits_0 : decode cX12_bits 0 = .ok (.iconst 0, 1) := by decide +kernel
theorem dX12_bits_1 : decode cX12_bits 1 = .ok (.istore_n 1, 1) := by decide +kernel
theorem dX12_bits_2 : decode cX12_bits 2 = .ok (.iconst 0, 1) := by decide +kernel
theorem dX12_bits_3 : decode cX12_bits 3 = .ok (.istore_n 2, 1) := by decide +kernel
theorem dX12_bits_4 : decode cX12_bits 4 = .ok (.iload_n 2, 1) := by decide +kernel
theorem dX12_bits_5 : decode cX12_bits 5 = .ok (.bipush 12, 2) := by decide +kernel
theorem dX12_bits_7 : decode cX12_bits 7 = .ok (.if_icmp .gt 17, 3) := by decide +kernel
theorem dX12_bits_10 : decode cX12_bits 10 = .ok (.iload_n 1, 1) := by decide +kernel
theorem dX12_bits_11 : decode cX12_bits 11 = .ok (.iload_n 0, 1) := by decide +kernel
theorem dX12_bits_12 : decode cX12_bits 12 = .ok (.iload_n 2, 1) := by decide +kernel
theorem dX12_bits_13 : decode cX12_bits 13 = .ok (.ishr, 1) := by decide +kernel
theorem dX12_bits_14 : decode cX12_bits 14 = .ok (.iconst 1, 1) := by decide +kernel
theorem dX12_bits_15 : decode cX12_bits 15 = .ok (.iand, 1) := by decide +kernel
theorem dX12_bits_16 : decode cX12_bits 16 = .ok (.iadd, 1) := by decide +kernel
theorem dX12_bits_17 : decode cX12_bits 17 = .ok (.istore_n 1, 1) := by decide +kernel
theorem dX12_bits_18 : decode cX12_bits 18 = .ok (.iinc 2 1, 3) := by decide +kernel
theorem dX12_bits_21 : decode cX12_bits 21 = .ok (.goto (-17), 3) := by decide +kernel
theorem dX12_bits_24 : decode cX12_bits 24 = .ok (.iload_n 1, 1) := by decide +kernel
theorem dX12_bits_25 : decode cX12_bits 25 = .ok (.ireturn, 1) := by decide +kernel
theorem dX12_feed_0 : decode cX12_feed 0 = .ok (.aload_n 0, 1) := by decide +kernel
theorem dX12_feed_1 : decode cX12_feed 1 = .ok (.iconst 0, 1) := by decide +kernel
theorem dX12_feed_2 : decode cX12_feed 2 = .ok (.putfield 96, 3) := by decide +kernel
theorem dX12_feed_5 : decode cX12_feed 5 = .ok (.aload_n 0, 1) := by decide +kernel
theorem dX12_feed_6 : decode cX12_feed 6 = .ok (.getfield 99, 3) := by decide +kernel
theorem dX12_feed_9 : decode cX12_feed 9 = .ok (.bipush 20, 2) := by decide +kernel
theorem dX12_feed_11 : decode cX12_feed 11 = .ok (.iadd, 1) := by decide +kernel
theorem dX12_feed_12 : decode cX12_feed 12 = .ok (.sipush 700, 3) := by decide +kernel
theorem dX12_feed_15 : decode cX12_feed 15 = .ok (.if_icmp .le 5, 3) := by decide +kernel
theorem dX12_feed_18 : decode cX12_feed 18 = .ok (.iconst (-1), 1) := by decide +kernel
theorem dX12_feed_19 : decode cX12_feed 19 = .ok (.ireturn, 1) := by decide +kernel
theorem dX12_feed_20 : decode cX12_feed 20 = .ok (.aload_n 0, 1) := by decide +kernel
theorem dX12_feed_21 : decode cX12_feed 21 = .ok (.iload_n 1, 1) := by decide +kernel
theorem dX12_feed_22 : decode cX12_feed 22 = .ok (.invokevirtual 102, 3) := by decide +kernel
theorem dX12_feed_25 : decode cX12_feed 25 = .ok (.aload_n 0, 1) := by decide +kernel
theorem dX12_feed_26 : decode cX12_feed 26 = .ok (.iload_n 2, 1) := by decide +kernel
theorem dX12_feed_27 : decode cX12_feed 27 = .ok (.invokevirtual 102, 3) := by decide +kernel
theorem dX12_feed_30 : decode cX12_feed 30 = .ok (.aload_n 0, 1) := by decide +kernel
theorem dX12_feed_31 : decode cX12_feed 31 = .ok (.iload_n 3, 1) := by decide +kernel
theorem dX12_feed_32 : decode cX12_feed 32 = .ok (.invokevirtual 102, 3) := by decide +kernel
theorem dX12_feed_35 : decode cX12_feed 35 = .ok (.aload_n 0, 1) := by decide +kernel
theorem dX12_feed_36 : decode cX12_feed 36 = .ok (.iload 4, 2) := by decide +kernel
theorem dX12_feed_38 : decode cX12_feed 38 = .ok (.invokevirtual 102, 3) := by decide +kernel
theorem dX12_feed_41 : decode cX12_feed 41 = .ok (.aload_n 0, 1) := by decide +kernel
theorem dX12_feed_42 : decode cX12_feed 42 = .ok (.iload 5, 2) := by decide +kernel
theorem dX12_feed_44 : decode cX12_feed 44 = .ok (.invokevirtual 102, 3) := by decide +kernel
theorem dX12_feed_47 : decode cX12_feed 47 = .ok (.aload_n 0, 1) := by decide +kernel
theorem dX12_feed_48 : decode cX12_feed 48 = .ok (.getfield 99, 3) := by decide +kernel
theorem dX12_feed_51 : decode cX12_feed 51 = .ok (.ireturn, 1) := by decide +kernel
theorem dX12_lays_0 : decode cX12_lays 0 = .ok (.bipush 24, 2) := by decide +kernel
theorem dX12_lays_2 : decode cX12_lays 2 = .ok (.istore_n 2, 1) := by decide +kernel
theorem dX12_lays_3 : decode cX12_lays 3 = .ok (.iload_n 2, 1) := by decide +kernel
theorem dX12_lays_4 : decode cX12_lays 4 = .ok (.ifCond .lt 35, 3) := by decide +kernel
theorem dX12_lays_7 : decode cX12_lays 7 = .ok (.aload_n 0, 1) := by decide +kernel
theorem dX12_lays_8 : decode cX12_lays 8 = .ok (.getfield 23, 3) := by decide +kernel
theorem dX12_lays_11 : decode cX12_lays 11 = .ok (.aload_n 0, 1) := by decide +kernel
theorem dX12_lays_12 : decode cX12_lays 12 = .ok (.getfield 99, 3) := by decide +kernel
theorem dX12_lays_15 : decode cX12_lays 15 = .ok (.iload_n 1, 1) := by decide +kernel
theorem dX12_lays_16 : decode cX12_lays 16 = .ok (.iload_n 2, 1) := by decide +kernel
theorem dX12_lays_17 : decode cX12_lays 17 = .ok (.ishr, 1) := by decide +kernel
theorem dX12_lays_18 : decode cX12_lays 18 = .ok (.sipush 255, 3) := by decide +kernel
theorem dX12_lays_21 : decode cX12_lays 21 = .ok (.iand, 1) := by decide +kernel
theorem dX12_lays_22 : decode cX12_lays 22 = .ok (.iastore, 1) := by decide +kernel
theorem dX12_lays_23 : decode cX12_lays 23 = .ok (.aload_n 0, 1) := by decide +kernel
theorem dX12_lays_24 : decode cX12_lays 24 = .ok (.dup, 1) := by decide +kernel
theorem dX12_lays_25 : decode cX12_lays 25 = .ok (.getfield 99, 3) := by decide +kernel
theorem dX12_lays_28 : decode cX12_lays 28 = .ok (.iconst 1, 1) := by decide +kernel
theorem dX12_lays_29 : decode cX12_lays 29 = .ok (.iadd, 1) := by decide +kernel
theorem dX12_lays_30 : decode cX12_lays 30 = .ok (.putfield 99, 3) := by decide +kernel
theorem dX12_lays_33 : decode cX12_lays 33 = .ok (.iinc 2 (-8), 3) := by decide +kernel
theorem dX12_lays_36 : decode cX12_lays 36 = .ok (.goto (-33), 3) := by decide +kernel
theorem dX12_lays_39 : decode cX12_lays 39 = .ok (.return_, 1) := by decide +kernel
theorem dX12_byteAt_0 : decode cX12_byteAt 0 = .ok (.iload_n 1, 1) := by decide +kernel
theorem dX12_byteAt_1 : decode cX12_byteAt 1 = .ok (.aload_n 0, 1) := by decide +kernel
theorem dX12_byteAt_2 : decode cX12_byteAt 2 = .ok (.getfield 106, 3) := by decide +kernel
theorem dX12_byteAt_5 : decode cX12_byteAt 5 = .ok (.if_icmp .ge 12, 3) := by decide +kernel
theorem dX12_byteAt_8 : decode cX12_byteAt 8 = .ok (.aload_n 0, 1) := by decide +kernel
theorem dX12_byteAt_9 : decode cX12_byteAt 9 = .ok (.getfield 23, 3) := by decide +kernel
theorem dX12_byteAt_12 : decode cX12_byteAt 12 = .ok (.iload_n 1, 1) := by decide +kernel
theorem dX12_byteAt_13 : decode cX12_byteAt 13 = .ok (.iaload, 1) := by decide +kernel
theorem dX12_byteAt_14 : decode cX12_byteAt 14 = .ok (.goto 4, 3) := by decide +kernel
theorem dX12_byteAt_17 : decode cX12_byteAt 17 = .ok (.iconst 0, 1) := by decide +kernel
theorem dX12_byteAt_18 : decode cX12_byteAt 18 = .ok (.ireturn, 1) := by decide +kernel
theorem dX12_isLetter_0 : decode cX12_isLetter 0 = .ok (.iload_n 0, 1) := by decide +kernel
theorem dX12_isLetter_1 : decode cX12_isLetter 1 = .ok (.bipush 97, 2) := by decide +kernel
theorem dX12_isLetter_3 : decode cX12_isLetter 3 = .ok (.if_icmp .lt 13, 3) := by decide +kernel
theorem dX12_isLetter_6 : decode cX12_isLetter 6 = .ok (.iload_n 0, 1) := by decide +kernel
theorem dX12_isLetter_7 : decode cX12_isLetter 7 = .ok (.bipush 122, 2) := by decide +kernel
theorem dX12_isLetter_9 : decode cX12_isLetter 9 = .ok (.if_icmp .gt 7, 3) := by decide +kernel
theorem dX12_isLetter_12 : decode cX12_isLetter 12 = .ok (.iconst 1, 1) := by decide +kernel
theorem dX12_isLetter_13 : decode cX12_isLetter 13 = .ok (.goto 4, 3) := by decide +kernel
theorem dX12_isLetter_16 : decode cX12_isLetter 16 = .ok (.iconst 0, 1) := by decide +kernel
theorem dX12_isLetter_17 : decode cX12_isLetter 17 = .ok (.ireturn, 1) := by decide +kernel
theorem dX12_isDigit_0 : decode cX12_isDigit 0 = .ok (.iload_n 0, 1) := by decide +kernel
theorem dX12_isDigit_1 : decode cX12_isDigit 1 = .ok (.bipush 48, 2) := by decide +kernel
theorem dX12_isDigit_3 : decode cX12_isDigit 3 = .ok (.if_icmp .lt 13, 3) := by decide +kernel
theorem dX12_isDigit_6 : decode cX12_isDigit 6 = .ok (.iload_n 0, 1) := by decide +kernel
theorem dX12_isDigit_7 : decode cX12_isDigit 7 = .ok (.bipush 57, 2) := by decide +kernel
theorem dX12_isDigit_9 : decode cX12_isDigit 9 = .ok (.if_icmp .gt 7, 3) := by decide +kernel
theorem dX12_isDigit_12 : decode cX12_isDigit 12 = .ok (.iconst 1, 1) := by decide +kernel
theorem dX12_isDigit_13 : decode cX12_isDigit 13 = .ok (.goto 4, 3) := by decide +kernel
theorem dX12_isDigit_16 : decode cX12_isDigit 16 = .ok (.iconst 0, 1) := by decide +kernel
theorem dX12_isDigit_17 : decode cX12_isDigit 17 = .ok (.ireturn, 1) := by decide +kernel
theorem dX12_takes_0 : decode cX12_takes 0 = .ok (.aload_n 0, 1) := by decide +kernel
theorem dX12_takes_1 : decode cX12_takes 1 = .ok (.getfield 109, 3) := by decide +kernel
theorem dX12_takes_4 : decode cX12_takes 4 = .ok (.aload_n 0, 1) := by decide +kernel
theorem dX12_takes_5 : decode cX12_takes 5 = .ok (.getfield 106, 3) := by decide +kernel
theorem dX12_takes_8 : decode cX12_takes 8 = .ok (.if_icmp .ge 42, 3) := by decide +kernel
theorem dX12_takes_11 : decode cX12_takes 11 = .ok (.aload_n 0, 1) := by decide +kernel
theorem dX12_takes_12 : decode cX12_takes 12 = .ok (.aload_n 0, 1) := by decide +kernel
theorem dX12_takes_13 : decode cX12_takes 13 = .ok (.getfield 109, 3) := by decide +kernel
theorem dX12_takes_16 : decode cX12_takes 16 = .ok (.invokevirtual 112, 3) := by decide +kernel
theorem dX12_takes_19 : decode cX12_takes 19 = .ok (.bipush 32, 2) := by decide +kernel
theorem dX12_takes_21 : decode cX12_takes 21 = .ok (.if_icmp .eq 16, 3) := by decide +kernel
theorem dX12_takes_24 : decode cX12_takes 24 = .ok (.aload_n 0, 1) := by decide +kernel
theorem dX12_takes_25 : decode cX12_takes 25 = .ok (.aload_n 0, 1) := by decide +kernel
theorem dX12_takes_26 : decode cX12_takes 26 = .ok (.getfield 109, 3) := by decide +kernel
theorem dX12_takes_29 : decode cX12_takes 29 = .ok (.invokevirtual 112, 3) := by decide +kernel
theorem dX12_takes_32 : decode cX12_takes 32 = .ok (.bipush 10, 2) := by decide +kernel
theorem dX12_takes_34 : decode cX12_takes 34 = .ok (.if_icmp .ne 16, 3) := by decide +kernel
theorem dX12_takes_37 : decode cX12_takes 37 = .ok (.aload_n 0, 1) := by decide +kernel
theorem dX12_takes_38 : decode cX12_takes 38 = .ok (.dup, 1) := by decide +kernel
theorem dX12_takes_39 : decode cX12_takes 39 = .ok (.getfield 109, 3) := by decide +kernel
theorem dX12_takes_42 : decode cX12_takes 42 = .ok (.iconst 1, 1) := by decide +kernel
theorem dX12_takes_43 : decode cX12_takes 43 = .ok (.iadd, 1) := by decide +kernel
theorem dX12_takes_44 : decode cX12_takes 44 = .ok (.putfield 109, 3) := by decide +kernel
theorem dX12_takes_47 : decode cX12_takes 47 = .ok (.goto (-47), 3) := by decide +kernel
theorem dX12_takes_50 : decode cX12_takes 50 = .ok (.aload_n 0, 1) := by decide +kernel
theorem dX12_takes_51 : decode cX12_takes 51 = .ok (.aload_n 0, 1) := by decide +kernel
theorem dX12_takes_52 : decode cX12_takes 52 = .ok (.getfield 109, 3) := by decide +kernel
theorem dX12_takes_55 : decode cX12_takes 55 = .ok (.putfield 116, 3) := by decide +kernel
theorem dX12_takes_58 : decode cX12_takes 58 = .ok (.aload_n 0, 1) := by decide +kernel
theorem dX12_takes_59 : decode cX12_takes 59 = .ok (.lconst 0, 1) := by decide +kernel
theorem dX12_takes_60 : decode cX12_takes 60 = .ok (.putfield 119, 3) := by decide +kernel
theorem dX12_takes_63 : decode cX12_takes 63 = .ok (.aload_n 0, 1) := by decide +kernel
theorem dX12_takes_64 : decode cX12_takes 64 = .ok (.iconst 0, 1) := by decide +kernel
theorem dX12_takes_65 : decode cX12_takes 65 = .ok (.putfield 123, 3) := by decide +kernel
theorem dX12_takes_68 : decode cX12_takes 68 = .ok (.aload_n 0, 1) := by decide +kernel
theorem dX12_takes_69 : decode cX12_takes 69 = .ok (.aload_n 0, 1) := by decide +kernel
theorem dX12_takes_70 : decode cX12_takes 70 = .ok (.getfield 109, 3) := by decide +kernel
theorem dX12_takes_73 : decode cX12_takes 73 = .ok (.invokevirtual 112, 3) := by decide +kernel
theorem dX12_takes_76 : decode cX12_takes 76 = .ok (.istore_n 1, 1) := by decide +kernel
theorem dX12_takes_77 : decode cX12_takes 77 = .ok (.aload_n 0, 1) := by decide +kernel
theorem dX12_takes_78 : decode cX12_takes 78 = .ok (.iload_n 1, 1) := by decide +kernel
theorem dX12_takes_79 : decode cX12_takes 79 = .ok (.putfield 126, 3) := by decide +kernel
theorem dX12_takes_82 : decode cX12_takes 82 = .ok (.aload_n 0, 1) := by decide +kernel
theorem dX12_takes_83 : decode cX12_takes 83 = .ok (.getfield 109, 3) := by decide +kernel
theorem dX12_takes_86 : decode cX12_takes 86 = .ok (.aload_n 0, 1) := by decide +kernel
theorem dX12_takes_87 : decode cX12_takes 87 = .ok (.getfield 106, 3) := by decide +kernel
theorem dX12_takes_90 : decode cX12_takes 90 = .ok (.if_icmp .lt 11, 3) := by decide +kernel
theorem dX12_takes_93 : decode cX12_takes 93 = .ok (.aload_n 0, 1) := by decide +kernel
theorem dX12_takes_94 : decode cX12_takes 94 = .ok (.iconst 0, 1) := by decide +kernel
theorem dX12_takes_95 : decode cX12_takes 95 = .ok (.putfield 129, 3) := by decide +kernel
theorem dX12_takes_98 : decode cX12_takes 98 = .ok (.goto 233, 3) := by decide +kernel
theorem dX12_takes_101 : decode cX12_takes 101 = .ok (.iload_n 1, 1) := by decide +kernel
theorem dX12_takes_102 : decode cX12_takes 102 = .ok (.invokestatic 132, 3) := by decide +kernel
theorem dX12_takes_105 : decode cX12_takes 105 = .ok (.ifCond .eq 75, 3) := by decide +kernel
theorem dX12_takes_108 : decode cX12_takes 108 = .ok (.aload_n 0, 1) := by decide +kernel
theorem dX12_takes_109 : decode cX12_takes 109 = .ok (.aload_n 0, 1) := by decide +kernel
theorem dX12_takes_110 : decode cX12_takes 110 = .ok (.getfield 109, 3) := by decide +kernel
theorem dX12_takes_113 : decode cX12_takes 113 = .ok (.invokevirtual 112, 3) := by decide +kernel
theorem dX12_takes_116 : decode cX12_takes 116 = .ok (.invokestatic 132, 3) := by decide +kernel
theorem dX12_takes_119 : decode cX12_takes 119 = .ok (.ifCond .eq 53, 3) := by decide +kernel
theorem dX12_takes_122 : decode cX12_takes 122 = .ok (.aload_n 0, 1) := by decide +kernel
theorem dX12_takes_123 : decode cX12_takes 123 = .ok (.getfield 109, 3) := by decide +kernel
theorem dX12_takes_126 : decode cX12_takes 126 = .ok (.aload_n 0, 1) := by decide +kernel
theorem dX12_takes_127 : decode cX12_takes 127 = .ok (.getfield 116, 3) := by decide +kernel
theorem dX12_takes_130 : decode cX12_takes 130 = .ok (.isub, 1) := by decide +kernel
theorem dX12_takes_131 : decode cX12_takes 131 = .ok (.bipush 7, 2) := by decide +kernel
theorem dX12_takes_133 : decode cX12_takes 133 = .ok (.if_icmp .ge 26, 3) := by decide +kernel
theorem dX12_takes_136 : decode cX12_takes 136 = .ok (.aload_n 0, 1) := by decide +kernel
theorem dX12_takes_137 : decode cX12_takes 137 = .ok (.aload_n 0, 1) := by decide +kernel
theorem dX12_takes_138 : decode cX12_takes 138 = .ok (.getfield 119, 3) := by decide +kernel
theorem dX12_takes_141 : decode cX12_takes 141 = .ok (.iconst 5, 1) := by decide +kernel
theorem dX12_takes_142 : decode cX12_takes 142 = .ok (.lshl, 1) := by decide +kernel
theorem dX12_takes_143 : decode cX12_takes 143 = .ok (.aload_n 0, 1) := by decide +kernel
theorem dX12_takes_144 : decode cX12_takes 144 = .ok (.aload_n 0, 1) := by decide +kernel
theorem dX12_takes_145 : decode cX12_takes 145 = .ok (.getfield 109, 3) := by decide +kernel
theorem dX12_takes_148 : decode cX12_takes 148 = .ok (.invokevirtual 112, 3) := by decide +kernel
theorem dX12_takes_151 : decode cX12_takes 151 = .ok (.bipush 96, 2) := by decide +kernel
theorem dX12_takes_153 : decode cX12_takes 153 = .ok (.isub, 1) := by decide +kernel
theorem dX12_takes_154 : decode cX12_takes 154 = .ok (.i2l, 1) := by decide +kernel
theorem dX12_takes_155 : decode cX12_takes 155 = .ok (.lor, 1) := by decide +kernel
theorem dX12_takes_156 : decode cX12_takes 156 = .ok (.putfield 119, 3) := by decide +kernel
theorem dX12_takes_159 : decode cX12_takes 159 = .ok (.aload_n 0, 1) := by decide +kernel
theorem dX12_takes_160 : decode cX12_takes 160 = .ok (.dup, 1) := by decide +kernel
theorem dX12_takes_161 : decode cX12_takes 161 = .ok (.getfield 109, 3) := by decide +kernel
theorem dX12_takes_164 : decode cX12_takes 164 = .ok (.iconst 1, 1) := by decide +kernel
theorem dX12_takes_165 : decode cX12_takes 165 = .ok (.iadd, 1) := by decide +kernel
theorem dX12_takes_166 : decode cX12_takes 166 = .ok (.putfield 109, 3) := by decide +kernel
theorem dX12_takes_169 : decode cX12_takes 169 = .ok (.goto (-61), 3) := by decide +kernel
theorem dX12_takes_172 : decode cX12_takes 172 = .ok (.aload_n 0, 1) := by decide +kernel
theorem dX12_takes_173 : decode cX12_takes 173 = .ok (.iconst 1, 1) := by decide +kernel
theorem dX12_takes_174 : decode cX12_takes 174 = .ok (.putfield 129, 3) := by decide +kernel
theorem dX12_takes_177 : decode cX12_takes 177 = .ok (.goto 154, 3) := by decide +kernel
theorem dX12_takes_180 : decode cX12_takes 180 = .ok (.iload_n 1, 1) := by decide +kernel
theorem dX12_takes_181 : decode cX12_takes 181 = .ok (.invokestatic 136, 3) := by decide +kernel
theorem dX12_takes_184 : decode cX12_takes 184 = .ok (.ifCond .eq 74, 3) := by decide +kernel
theorem dX12_takes_187 : decode cX12_takes 187 = .ok (.aload_n 0, 1) := by decide +kernel
theorem dX12_takes_188 : decode cX12_takes 188 = .ok (.aload_n 0, 1) := by decide +kernel
theorem dX12_takes_189 : decode cX12_takes 189 = .ok (.getfield 109, 3) := by decide +kernel
theorem dX12_takes_192 : decode cX12_takes 192 = .ok (.invokevirtual 112, 3) := by decide +kernel
theorem dX12_takes_195 : decode cX12_takes 195 = .ok (.invokestatic 136, 3) := by decide +kernel
theorem dX12_takes_198 : decode cX12_takes 198 = .ok (.ifCond .eq 52, 3) := by decide +kernel
theorem dX12_takes_201 : decode cX12_takes 201 = .ok (.aload_n 0, 1) := by decide +kernel
theorem dX12_takes_202 : decode cX12_takes 202 = .ok (.getfield 109, 3) := by decide +kernel
theorem dX12_takes_205 : decode cX12_takes 205 = .ok (.aload_n 0, 1) := by decide +kernel
theorem dX12_takes_206 : decode cX12_takes 206 = .ok (.getfield 116, 3) := by decide +kernel
theorem dX12_takes_209 : decode cX12_takes 209 = .ok (.isub, 1) := by decide +kernel
theorem dX12_takes_210 : decode cX12_takes 210 = .ok (.iconst 4, 1) := by decide +kernel
theorem dX12_takes_211 : decode cX12_takes 211 = .ok (.if_icmp .ge 26, 3) := by decide +kernel
theorem dX12_takes_214 : decode cX12_takes 214 = .ok (.aload_n 0, 1) := by decide +kernel
theorem dX12_takes_215 : decode cX12_takes 215 = .ok (.bipush 10, 2) := by decide +kernel
theorem dX12_takes_217 : decode cX12_takes 217 = .ok (.aload_n 0, 1) := by decide +kernel
theorem dX12_takes_218 : decode cX12_takes 218 = .ok (.getfield 123, 3) := by decide +kernel
theorem dX12_takes_221 : decode cX12_takes 221 = .ok (.imul, 1) := by decide +kernel
theorem dX12_takes_222 : decode cX12_takes 222 = .ok (.aload_n 0, 1) := by decide +kernel
theorem dX12_takes_223 : decode cX12_takes 223 = .ok (.aload_n 0, 1) := by decide +kernel
theorem dX12_takes_224 : decode cX12_takes 224 = .ok (.getfield 109, 3) := by decide +kernel
theorem dX12_takes_227 : decode cX12_takes 227 = .ok (.invokevirtual 112, 3) := by decide +kernel
theorem dX12_takes_230 : decode cX12_takes 230 = .ok (.iadd, 1) := by decide +kernel
theorem dX12_takes_231 : decode cX12_takes 231 = .ok (.bipush 48, 2) := by decide +kernel
theorem dX12_takes_233 : decode cX12_takes 233 = .ok (.isub, 1) := by decide +kernel
theorem dX12_takes_234 : decode cX12_takes 234 = .ok (.putfield 123, 3) := by decide +kernel
theorem dX12_takes_237 : decode cX12_takes 237 = .ok (.aload_n 0, 1) := by decide +kernel
theorem dX12_takes_238 : decode cX12_takes 238 = .ok (.dup, 1) := by decide +kernel
theorem dX12_takes_239 : decode cX12_takes 239 = .ok (.getfield 109, 3) := by decide +kernel
theorem dX12_takes_242 : decode cX12_takes 242 = .ok (.iconst 1, 1) := by decide +kernel
theorem dX12_takes_243 : decode cX12_takes 243 = .ok (.iadd, 1) := by decide +kernel
theorem dX12_takes_244 : decode cX12_takes 244 = .ok (.putfield 109, 3) := by decide +kernel
theorem dX12_takes_247 : decode cX12_takes 247 = .ok (.goto (-60), 3) := by decide +kernel
theorem dX12_takes_250 : decode cX12_takes 250 = .ok (.aload_n 0, 1) := by decide +kernel
theorem dX12_takes_251 : decode cX12_takes 251 = .ok (.iconst 2, 1) := by decide +kernel
theorem dX12_takes_252 : decode cX12_takes 252 = .ok (.putfield 129, 3) := by decide +kernel
theorem dX12_takes_255 : decode cX12_takes 255 = .ok (.goto 76, 3) := by decide +kernel
theorem dX12_takes_258 : decode cX12_takes 258 = .ok (.aload_n 0, 1) := by decide +kernel
theorem dX12_takes_259 : decode cX12_takes 259 = .ok (.dup, 1) := by decide +kernel
theorem dX12_takes_260 : decode cX12_takes 260 = .ok (.getfield 109, 3) := by decide +kernel
theorem dX12_takes_263 : decode cX12_takes 263 = .ok (.iconst 1, 1) := by decide +kernel
theorem dX12_takes_264 : decode cX12_takes 264 = .ok (.iadd, 1) := by decide +kernel
theorem dX12_takes_265 : decode cX12_takes 265 = .ok (.putfield 109, 3) := by decide +kernel
theorem dX12_takes_268 : decode cX12_takes 268 = .ok (.aload_n 0, 1) := by decide +kernel
theorem dX12_takes_269 : decode cX12_takes 269 = .ok (.iload_n 1, 1) := by decide +kernel
theorem dX12_takes_270 : decode cX12_takes 270 = .ok (.bipush 59, 2) := by decide +kernel
theorem dX12_takes_272 : decode cX12_takes 272 = .ok (.if_icmp .eq 51, 3) := by decide +kernel
theorem dX12_takes_275 : decode cX12_takes 275 = .ok (.iload_n 1, 1) := by decide +kernel
theorem dX12_takes_276 : decode cX12_takes 276 = .ok (.bipush 40, 2) := by decide +kernel
theorem dX12_takes_278 : decode cX12_takes 278 = .ok (.if_icmp .eq 45, 3) := by decide +kernel
theorem dX12_takes_281 : decode cX12_takes 281 = .ok (.iload_n 1, 1) := by decide +kernel
theorem dX12_takes_282 : decode cX12_takes 282 = .ok (.bipush 41, 2) := by decide +kernel
theorem dX12_takes_284 : decode cX12_takes 284 = .ok (.if_icmp .eq 39, 3) := by decide +kernel
theorem dX12_takes_287 : decode cX12_takes 287 = .ok (.iload_n 1, 1) := by decide +kernel
theorem dX12_takes_288 : decode cX12_takes 288 = .ok (.bipush 43, 2) := by decide +kernel
theorem dX12_takes_290 : decode cX12_takes 290 = .ok (.if_icmp .eq 33, 3) := by decide +kernel
theorem dX12_takes_293 : decode cX12_takes 293 = .ok (.iload_n 1, 1) := by decide +kernel
theorem dX12_takes_294 : decode cX12_takes 294 = .ok (.bipush 45, 2) := by decide +kernel
theorem dX12_takes_296 : decode cX12_takes 296 = .ok (.if_icmp .eq 27, 3) := by decide +kernel
theorem dX12_takes_299 : decode cX12_takes 299 = .ok (.iload_n 1, 1) := by decide +kernel
theorem dX12_takes_300 : decode cX12_takes 300 = .ok (.bipush 42, 2) := by decide +kernel
theorem dX12_takes_302 : decode cX12_takes 302 = .ok (.if_icmp .eq 21, 3) := by decide +kernel
theorem dX12_takes_305 : decode cX12_takes 305 = .ok (.iload_n 1, 1) := by decide +kernel
theorem dX12_takes_306 : decode cX12_takes 306 = .ok (.bipush 47, 2) := by decide +kernel
theorem dX12_takes_308 : decode cX12_takes 308 = .ok (.if_icmp .eq 15, 3) := by decide +kernel
theorem dX12_takes_311 : decode cX12_takes 311 = .ok (.iload_n 1, 1) := by decide +kernel
theorem dX12_takes_312 : decode cX12_takes 312 = .ok (.bipush 60, 2) := by decide +kernel
theorem dX12_takes_314 : decode cX12_takes 314 = .ok (.if_icmp .eq 9, 3) := by decide +kernel
theorem dX12_takes_317 : decode cX12_takes 317 = .ok (.iload_n 1, 1) := by decide +kernel
theorem dX12_takes_318 : decode cX12_takes 318 = .ok (.bipush 61, 2) := by decide +kernel
theorem dX12_takes_320 : decode cX12_takes 320 = .ok (.if_icmp .ne 7, 3) := by decide +kernel
theorem dX12_takes_323 : decode cX12_takes 323 = .ok (.iconst 3, 1) := by decide +kernel
theorem dX12_takes_324 : decode cX12_takes 324 = .ok (.goto 4, 3) := by decide +kernel
theorem dX12_takes_327 : decode cX12_takes 327 = .ok (.iconst 4, 1) := by decide +kernel
theorem dX12_takes_328 : decode cX12_takes 328 = .ok (.putfield 129, 3) := by decide +kernel
theorem dX12_takes_331 : decode cX12_takes 331 = .ok (.aload_n 0, 1) := by decide +kernel
theorem dX12_takes_332 : decode cX12_takes 332 = .ok (.aload_n 0, 1) := by decide +kernel
theorem dX12_takes_333 : decode cX12_takes 333 = .ok (.getfield 109, 3) := by decide +kernel
theorem dX12_takes_336 : decode cX12_takes 336 = .ok (.aload_n 0, 1) := by decide +kernel
theorem dX12_takes_337 : decode cX12_takes 337 = .ok (.getfield 116, 3) := by decide +kernel
theorem dX12_takes_340 : decode cX12_takes 340 = .ok (.isub, 1) := by decide +kernel
theorem dX12_takes_341 : decode cX12_takes 341 = .ok (.putfield 139, 3) := by decide +kernel
theorem dX12_takes_344 : decode cX12_takes 344 = .ok (.return_, 1) := by decide +kernel
theorem dX12_spelled_0 : decode cX12_spelled 0 = .ok (.iload_n 0, 1) := by decide +kernel
theorem dX12_spelled_1 : decode cX12_spelled 1 = .ok (.i2l, 1) := by decide +kernel
theorem dX12_spelled_2 : decode cX12_spelled 2 = .ok (.ldc2_w 142, 3) := by decide +kernel
theorem dX12_spelled_5 : decode cX12_spelled 5 = .ok (.lsub, 1) := by decide +kernel
theorem dX12_spelled_6 : decode cX12_spelled 6 = .ok (.iconst 5, 1) := by decide +kernel
theorem dX12_spelled_7 : decode cX12_spelled 7 = .ok (.lshl, 1) := by decide +kernel
theorem dX12_spelled_8 : decode cX12_spelled 8 = .ok (.iload_n 1, 1) := by decide +kernel
theorem dX12_spelled_9 : decode cX12_spelled 9 = .ok (.bipush 96, 2) := by decide +kernel
theorem dX12_spelled_11 : decode cX12_spelled 11 = .ok (.isub, 1) := by decide +kernel
theorem dX12_spelled_12 : decode cX12_spelled 12 = .ok (.i2l, 1) := by decide +kernel
theorem dX12_spelled_13 : decode cX12_spelled 13 = .ok (.lor, 1) := by decide +kernel
theorem dX12_spelled_14 : decode cX12_spelled 14 = .ok (.lstore 7, 2) := by decide +kernel
theorem dX12_spelled_16 : decode cX12_spelled 16 = .ok (.iload_n 2, 1) := by decide +kernel
theorem dX12_spelled_17 : decode cX12_spelled 17 = .ok (.ifCond .eq 15, 3) := by decide +kernel
theorem dX12_spelled_20 : decode cX12_spelled 20 = .ok (.lload 7, 2) := by decide +kernel
theorem dX12_spelled_22 : decode cX12_spelled 22 = .ok (.iconst 5, 1) := by decide +kernel
theorem dX12_spelled_23 : decode cX12_spelled 23 = .ok (.lshl, 1) := by decide +kernel
theorem dX12_spelled_24 : decode cX12_spelled 24 = .ok (.iload_n 2, 1) := by decide +kernel
theorem dX12_spelled_25 : decode cX12_spelled 25 = .ok (.bipush 96, 2) := by decide +kernel
theorem dX12_spelled_27 : decode cX12_spelled 27 = .ok (.isub, 1) := by decide +kernel
theorem dX12_spelled_28 : decode cX12_spelled 28 = .ok (.i2l, 1) := by decide +kernel
theorem dX12_spelled_29 : decode cX12_spelled 29 = .ok (.lor, 1) := by decide +kernel
theorem dX12_spelled_30 : decode cX12_spelled 30 = .ok (.lstore 7, 2) := by decide +kernel
theorem dX12_spelled_32 : decode cX12_spelled 32 = .ok (.iload_n 3, 1) := by decide +kernel
theorem dX12_spelled_33 : decode cX12_spelled 33 = .ok (.ifCond .eq 15, 3) := by decide +kernel
theorem dX12_spelled_36 : decode cX12_spelled 36 = .ok (.lload 7, 2) := by decide +kernel
theorem dX12_spelled_38 : decode cX12_spelled 38 = .ok (.iconst 5, 1) := by decide +kernel
theorem dX12_spelled_39 : decode cX12_spelled 39 = .ok (.lshl, 1) := by decide +kernel
theorem dX12_spelled_40 : decode cX12_spelled 40 = .ok (.iload_n 3, 1) := by decide +kernel
theorem dX12_spelled_41 : decode cX12_spelled 41 = .ok (.bipush 96, 2) := by decide +kernel
theorem dX12_spelled_43 : decode cX12_spelled 43 = .ok (.isub, 1) := by decide +kernel
theorem dX12_spelled_44 : decode cX12_spelled 44 = .ok (.i2l, 1) := by decide +kernel
theorem dX12_spelled_45 : decode cX12_spelled 45 = .ok (.lor, 1) := by decide +kernel
theorem dX12_spelled_46 : decode cX12_spelled 46 = .ok (.lstore 7, 2) := by decide +kernel
theorem dX12_spelled_48 : decode cX12_spelled 48 = .ok (.iload 4, 2) := by decide +kernel
theorem dX12_spelled_50 : decode cX12_spelled 50 = .ok (.ifCond .eq 16, 3) := by decide +kernel
theorem dX12_spelled_53 : decode cX12_spelled 53 = .ok (.lload 7, 2) := by decide +kernel
theorem dX12_spelled_55 : decode cX12_spelled 55 = .ok (.iconst 5, 1) := by decide +kernel
theorem dX12_spelled_56 : decode cX12_spelled 56 = .ok (.lshl, 1) := by decide +kernel
theorem dX12_spelled_57 : decode cX12_spelled 57 = .ok (.iload 4, 2) := by decide +kernel
theorem dX12_spelled_59 : decode cX12_spelled 59 = .ok (.bipush 96, 2) := by decide +kernel
theorem dX12_spelled_61 : decode cX12_spelled 61 = .ok (.isub, 1) := by decide +kernel
theorem dX12_spelled_62 : decode cX12_spelled 62 = .ok (.i2l, 1) := by decide +kernel
theorem dX12_spelled_63 : decode cX12_spelled 63 = .ok (.lor, 1) := by decide +kernel
theorem dX12_spelled_64 : decode cX12_spelled 64 = .ok (.lstore 7, 2) := by decide +kernel
theorem dX12_spelled_66 : decode cX12_spelled 66 = .ok (.iload 5, 2) := by decide +kernel
theorem dX12_spelled_68 : decode cX12_spelled 68 = .ok (.ifCond .eq 16, 3) := by decide +kernel
theorem dX12_spelled_71 : decode cX12_spelled 71 = .ok (.lload 7, 2) := by decide +kernel
theorem dX12_spelled_73 : decode cX12_spelled 73 = .ok (.iconst 5, 1) := by decide +kernel
theorem dX12_spelled_74 : decode cX12_spelled 74 = .ok (.lshl, 1) := by decide +kernel
theorem dX12_spelled_75 : decode cX12_spelled 75 = .ok (.iload 5, 2) := by decide +kernel
theorem dX12_spelled_77 : decode cX12_spelled 77 = .ok (.bipush 96, 2) := by decide +kernel
theorem dX12_spelled_79 : decode cX12_spelled 79 = .ok (.isub, 1) := by decide +kernel
theorem dX12_spelled_80 : decode cX12_spelled 80 = .ok (.i2l, 1) := by decide +kernel
theorem dX12_spelled_81 : decode cX12_spelled 81 = .ok (.lor, 1) := by decide +kernel
theorem dX12_spelled_82 : decode cX12_spelled 82 = .ok (.lstore 7, 2) := by decide +kernel
theorem dX12_spelled_84 : decode cX12_spelled 84 = .ok (.iload 6, 2) := by decide +kernel
theorem dX12_spelled_86 : decode cX12_spelled 86 = .ok (.ifCond .eq 16, 3) := by decide +kernel
theorem dX12_spelled_89 : decode cX12_spelled 89 = .ok (.lload 7, 2) := by decide +kernel
theorem dX12_spelled_91 : decode cX12_spelled 91 = .ok (.iconst 5, 1) := by decide +kernel
theorem dX12_spelled_92 : decode cX12_spelled 92 = .ok (.lshl, 1) := by decide +kernel
theorem dX12_spelled_93 : decode cX12_spelled 93 = .ok (.iload 6, 2) := by decide +kernel
theorem dX12_spelled_95 : decode cX12_spelled 95 = .ok (.bipush 96, 2) := by decide +kernel
theorem dX12_spelled_97 : decode cX12_spelled 97 = .ok (.isub, 1) := by decide +kernel
theorem dX12_spelled_98 : decode cX12_spelled 98 = .ok (.i2l, 1) := by decide +kernel
theorem dX12_spelled_99 : decode cX12_spelled 99 = .ok (.lor, 1) := by decide +kernel
theorem dX12_spelled_100 : decode cX12_spelled 100 = .ok (.lstore 7, 2) := by decide +kernel
theorem dX12_spelled_102 : decode cX12_spelled 102 = .ok (.lload 7, 2) := by decide +kernel
theorem dX12_spelled_104 : decode cX12_spelled 104 = .ok (.lreturn, 1) := by decide +kernel
theorem dX12_letters_0 : decode cX12_letters 0 = .ok (.iload_n 0, 1) := by decide +kernel
theorem dX12_letters_1 : decode cX12_letters 1 = .ok (.tableswitch 311 0 14 #[75, 90, 106, 122, 138, 153, 171, 187, 203, 217, 234, 252, 268, 284, 298], 75) := by decide +kernel
theorem dX12_letters_76 : decode cX12_letters 76 = .ok (.bipush 114, 2) := by decide +kernel
theorem dX12_letters_78 : decode cX12_letters 78 = .ok (.bipush 97, 2) := by decide +kernel
theorem dX12_letters_80 : decode cX12_letters 80 = .ok (.bipush 110, 2) := by decide +kernel
theorem dX12_letters_82 : decode cX12_letters 82 = .ok (.bipush 107, 2) := by decide +kernel
theorem dX12_letters_84 : decode cX12_letters 84 = .ok (.iconst 0, 1) := by decide +kernel
theorem dX12_letters_85 : decode cX12_letters 85 = .ok (.iconst 0, 1) := by decide +kernel
theorem dX12_letters_86 : decode cX12_letters 86 = .ok (.iconst 0, 1) := by decide +kernel
theorem dX12_letters_87 : decode cX12_letters 87 = .ok (.invokestatic 144, 3) := by decide +kernel
theorem dX12_letters_90 : decode cX12_letters 90 = .ok (.lreturn, 1) := by decide +kernel
theorem dX12_letters_91 : decode cX12_letters 91 = .ok (.bipush 112, 2) := by decide +kernel
theorem dX12_letters_93 : decode cX12_letters 93 = .ok (.bipush 108, 2) := by decide +kernel
theorem dX12_letters_95 : decode cX12_letters 95 = .ok (.bipush 97, 2) := by decide +kernel
theorem dX12_letters_97 : decode cX12_letters 97 = .ok (.bipush 99, 2) := by decide +kernel
theorem dX12_letters_99 : decode cX12_letters 99 = .ok (.bipush 101, 2) := by decide +kernel
theorem dX12_letters_101 : decode cX12_letters 101 = .ok (.iconst 0, 1) := by decide +kernel
theorem dX12_letters_102 : decode cX12_letters 102 = .ok (.iconst 0, 1) := by decide +kernel
theorem dX12_letters_103 : decode cX12_letters 103 = .ok (.invokestatic 144, 3) := by decide +kernel
theorem dX12_letters_106 : decode cX12_letters 106 = .ok (.lreturn, 1) := by decide +kernel
theorem dX12_letters_107 : decode cX12_letters 107 = .ok (.bipush 115, 2) := by decide +kernel
theorem dX12_letters_109 : decode cX12_letters 109 = .ok (.bipush 105, 2) := by decide +kernel
theorem dX12_letters_111 : decode cX12_letters 111 = .ok (.bipush 110, 2) := by decide +kernel
theorem dX12_letters_113 : decode cX12_letters 113 = .ok (.bipush 99, 2) := by decide +kernel
theorem dX12_letters_115 : decode cX12_letters 115 = .ok (.bipush 101, 2) := by decide +kernel
theorem dX12_letters_117 : decode cX12_letters 117 = .ok (.iconst 0, 1) := by decide +kernel
theorem dX12_letters_118 : decode cX12_letters 118 = .ok (.iconst 0, 1) := by decide +kernel
theorem dX12_letters_119 : decode cX12_letters 119 = .ok (.invokestatic 144, 3) := by decide +kernel
theorem dX12_letters_122 : decode cX12_letters 122 = .ok (.lreturn, 1) := by decide +kernel
theorem dX12_letters_123 : decode cX12_letters 123 = .ok (.bipush 109, 2) := by decide +kernel
theorem dX12_letters_125 : decode cX12_letters 125 = .ok (.bipush 111, 2) := by decide +kernel
theorem dX12_letters_127 : decode cX12_letters 127 = .ok (.bipush 118, 2) := by decide +kernel
theorem dX12_letters_129 : decode cX12_letters 129 = .ok (.bipush 101, 2) := by decide +kernel
theorem dX12_letters_131 : decode cX12_letters 131 = .ok (.bipush 115, 2) := by decide +kernel
theorem dX12_letters_133 : decode cX12_letters 133 = .ok (.iconst 0, 1) := by decide +kernel
theorem dX12_letters_134 : decode cX12_letters 134 = .ok (.iconst 0, 1) := by decide +kernel
theorem dX12_letters_135 : decode cX12_letters 135 = .ok (.invokestatic 144, 3) := by decide +kernel
theorem dX12_letters_138 : decode cX12_letters 138 = .ok (.lreturn, 1) := by decide +kernel
theorem dX12_letters_139 : decode cX12_letters 139 = .ok (.bipush 115, 2) := by decide +kernel
theorem dX12_letters_141 : decode cX12_letters 141 = .ok (.bipush 105, 2) := by decide +kernel
theorem dX12_letters_143 : decode cX12_letters 143 = .ok (.bipush 122, 2) := by decide +kernel
theorem dX12_letters_145 : decode cX12_letters 145 = .ok (.bipush 101, 2) := by decide +kernel
theorem dX12_letters_147 : decode cX12_letters 147 = .ok (.iconst 0, 1) := by decide +kernel
theorem dX12_letters_148 : decode cX12_letters 148 = .ok (.iconst 0, 1) := by decide +kernel
theorem dX12_letters_149 : decode cX12_letters 149 = .ok (.iconst 0, 1) := by decide +kernel
theorem dX12_letters_150 : decode cX12_letters 150 = .ok (.invokestatic 144, 3) := by decide +kernel
theorem dX12_letters_153 : decode cX12_letters 153 = .ok (.lreturn, 1) := by decide +kernel
theorem dX12_letters_154 : decode cX12_letters 154 = .ok (.bipush 101, 2) := by decide +kernel
theorem dX12_letters_156 : decode cX12_letters 156 = .ok (.bipush 118, 2) := by decide +kernel
theorem dX12_letters_158 : decode cX12_letters 158 = .ok (.bipush 101, 2) := by decide +kernel
theorem dX12_letters_160 : decode cX12_letters 160 = .ok (.bipush 110, 2) := by decide +kernel
theorem dX12_letters_162 : decode cX12_letters 162 = .ok (.bipush 105, 2) := by decide +kernel
theorem dX12_letters_164 : decode cX12_letters 164 = .ok (.bipush 110, 2) := by decide +kernel
theorem dX12_letters_166 : decode cX12_letters 166 = .ok (.bipush 103, 2) := by decide +kernel
theorem dX12_letters_168 : decode cX12_letters 168 = .ok (.invokestatic 144, 3) := by decide +kernel
theorem dX12_letters_171 : decode cX12_letters 171 = .ok (.lreturn, 1) := by decide +kernel
theorem dX12_letters_172 : decode cX12_letters 172 = .ok (.bipush 104, 2) := by decide +kernel
theorem dX12_letters_174 : decode cX12_letters 174 = .ok (.bipush 111, 2) := by decide +kernel
theorem dX12_letters_176 : decode cX12_letters 176 = .ok (.bipush 117, 2) := by decide +kernel
theorem dX12_letters_178 : decode cX12_letters 178 = .ok (.bipush 115, 2) := by decide +kernel
theorem dX12_letters_180 : decode cX12_letters 180 = .ok (.bipush 101, 2) := by decide +kernel
theorem dX12_letters_182 : decode cX12_letters 182 = .ok (.iconst 0, 1) := by decide +kernel
theorem dX12_letters_183 : decode cX12_letters 183 = .ok (.iconst 0, 1) := by decide +kernel
theorem dX12_letters_184 : decode cX12_letters 184 = .ok (.invokestatic 144, 3) := by decide +kernel
theorem dX12_letters_187 : decode cX12_letters 187 = .ok (.lreturn, 1) := by decide +kernel
theorem dX12_letters_188 : decode cX12_letters 188 = .ok (.bipush 114, 2) := by decide +kernel
theorem dX12_letters_190 : decode cX12_letters 190 = .ok (.bipush 97, 2) := by decide +kernel
theorem dX12_letters_192 : decode cX12_letters 192 = .ok (.bipush 110, 2) := by decide +kernel
theorem dX12_letters_194 : decode cX12_letters 194 = .ok (.bipush 107, 2) := by decide +kernel
theorem dX12_letters_196 : decode cX12_letters 196 = .ok (.bipush 115, 2) := by decide +kernel
theorem dX12_letters_198 : decode cX12_letters 198 = .ok (.iconst 0, 1) := by decide +kernel
theorem dX12_letters_199 : decode cX12_letters 199 = .ok (.iconst 0, 1) := by decide +kernel
theorem dX12_letters_200 : decode cX12_letters 200 = .ok (.invokestatic 144, 3) := by decide +kernel
theorem dX12_letters_203 : decode cX12_letters 203 = .ok (.lreturn, 1) := by decide +kernel
theorem dX12_letters_204 : decode cX12_letters 204 = .ok (.bipush 111, 2) := by decide +kernel
theorem dX12_letters_206 : decode cX12_letters 206 = .ok (.bipush 108, 2) := by decide +kernel
theorem dX12_letters_208 : decode cX12_letters 208 = .ok (.bipush 100, 2) := by decide +kernel
theorem dX12_letters_210 : decode cX12_letters 210 = .ok (.iconst 0, 1) := by decide +kernel
theorem dX12_letters_211 : decode cX12_letters 211 = .ok (.iconst 0, 1) := by decide +kernel
theorem dX12_letters_212 : decode cX12_letters 212 = .ok (.iconst 0, 1) := by decide +kernel
theorem dX12_letters_213 : decode cX12_letters 213 = .ok (.iconst 0, 1) := by decide +kernel
theorem dX12_letters_214 : decode cX12_letters 214 = .ok (.invokestatic 144, 3) := by decide +kernel
theorem dX12_letters_217 : decode cX12_letters 217 = .ok (.lreturn, 1) := by decide +kernel
theorem dX12_letters_218 : decode cX12_letters 218 = .ok (.bipush 112, 2) := by decide +kernel
theorem dX12_letters_220 : decode cX12_letters 220 = .ok (.bipush 101, 2) := by decide +kernel
theorem dX12_letters_222 : decode cX12_letters 222 = .ok (.bipush 114, 2) := by decide +kernel
theorem dX12_letters_224 : decode cX12_letters 224 = .ok (.bipush 115, 2) := by decide +kernel
theorem dX12_letters_226 : decode cX12_letters 226 = .ok (.bipush 111, 2) := by decide +kernel
theorem dX12_letters_228 : decode cX12_letters 228 = .ok (.bipush 110, 2) := by decide +kernel
theorem dX12_letters_230 : decode cX12_letters 230 = .ok (.iconst 0, 1) := by decide +kernel
theorem dX12_letters_231 : decode cX12_letters 231 = .ok (.invokestatic 144, 3) := by decide +kernel
theorem dX12_letters_234 : decode cX12_letters 234 = .ok (.lreturn, 1) := by decide +kernel
theorem dX12_letters_235 : decode cX12_letters 235 = .ok (.bipush 102, 2) := by decide +kernel
theorem dX12_letters_237 : decode cX12_letters 237 = .ok (.bipush 114, 2) := by decide +kernel
theorem dX12_letters_239 : decode cX12_letters 239 = .ok (.bipush 105, 2) := by decide +kernel
theorem dX12_letters_241 : decode cX12_letters 241 = .ok (.bipush 101, 2) := by decide +kernel
theorem dX12_letters_243 : decode cX12_letters 243 = .ok (.bipush 110, 2) := by decide +kernel
theorem dX12_letters_245 : decode cX12_letters 245 = .ok (.bipush 100, 2) := by decide +kernel
theorem dX12_letters_247 : decode cX12_letters 247 = .ok (.bipush 115, 2) := by decide +kernel
theorem dX12_letters_249 : decode cX12_letters 249 = .ok (.invokestatic 144, 3) := by decide +kernel
theorem dX12_letters_252 : decode cX12_letters 252 = .ok (.lreturn, 1) := by decide +kernel
theorem dX12_letters_253 : decode cX12_letters 253 = .ok (.bipush 112, 2) := by decide +kernel
theorem dX12_letters_255 : decode cX12_letters 255 = .ok (.bipush 105, 2) := by decide +kernel
theorem dX12_letters_257 : decode cX12_letters 257 = .ok (.bipush 99, 2) := by decide +kernel
theorem dX12_letters_259 : decode cX12_letters 259 = .ok (.bipush 107, 2) := by decide +kernel
theorem dX12_letters_261 : decode cX12_letters 261 = .ok (.bipush 115, 2) := by decide +kernel
theorem dX12_letters_263 : decode cX12_letters 263 = .ok (.iconst 0, 1) := by decide +kernel
theorem dX12_letters_264 : decode cX12_letters 264 = .ok (.iconst 0, 1) := by decide +kernel
theorem dX12_letters_265 : decode cX12_letters 265 = .ok (.invokestatic 144, 3) := by decide +kernel
theorem dX12_letters_268 : decode cX12_letters 268 = .ok (.lreturn, 1) := by decide +kernel
theorem dX12_letters_269 : decode cX12_letters 269 = .ok (.bipush 107, 2) := by decide +kernel
theorem dX12_letters_271 : decode cX12_letters 271 = .ok (.bipush 101, 2) := by decide +kernel
theorem dX12_letters_273 : decode cX12_letters 273 = .ok (.bipush 101, 2) := by decide +kernel
theorem dX12_letters_275 : decode cX12_letters 275 = .ok (.bipush 112, 2) := by decide +kernel
theorem dX12_letters_277 : decode cX12_letters 277 = .ok (.bipush 115, 2) := by decide +kernel
theorem dX12_letters_279 : decode cX12_letters 279 = .ok (.iconst 0, 1) := by decide +kernel
theorem dX12_letters_280 : decode cX12_letters 280 = .ok (.iconst 0, 1) := by decide +kernel
theorem dX12_letters_281 : decode cX12_letters 281 = .ok (.invokestatic 144, 3) := by decide +kernel
theorem dX12_letters_284 : decode cX12_letters 284 = .ok (.lreturn, 1) := by decide +kernel
theorem dX12_letters_285 : decode cX12_letters 285 = .ok (.bipush 97, 2) := by decide +kernel
theorem dX12_letters_287 : decode cX12_letters 287 = .ok (.bipush 110, 2) := by decide +kernel
theorem dX12_letters_289 : decode cX12_letters 289 = .ok (.bipush 100, 2) := by decide +kernel
theorem dX12_letters_291 : decode cX12_letters 291 = .ok (.iconst 0, 1) := by decide +kernel
theorem dX12_letters_292 : decode cX12_letters 292 = .ok (.iconst 0, 1) := by decide +kernel
theorem dX12_letters_293 : decode cX12_letters 293 = .ok (.iconst 0, 1) := by decide +kernel
theorem dX12_letters_294 : decode cX12_letters 294 = .ok (.iconst 0, 1) := by decide +kernel
theorem dX12_letters_295 : decode cX12_letters 295 = .ok (.invokestatic 144, 3) := by decide +kernel
theorem dX12_letters_298 : decode cX12_letters 298 = .ok (.lreturn, 1) := by decide +kernel
theorem dX12_letters_299 : decode cX12_letters 299 = .ok (.bipush 111, 2) := by decide +kernel
theorem dX12_letters_301 : decode cX12_letters 301 = .ok (.bipush 114, 2) := by decide +kernel
theorem dX12_letters_303 : decode cX12_letters 303 = .ok (.iconst 0, 1) := by decide +kernel
theorem dX12_letters_304 : decode cX12_letters 304 = .ok (.iconst 0, 1) := by decide +kernel
theorem dX12_letters_305 : decode cX12_letters 305 = .ok (.iconst 0, 1) := by decide +kernel
theorem dX12_letters_306 : decode cX12_letters 306 = .ok (.iconst 0, 1) := by decide +kernel
theorem dX12_letters_307 : decode cX12_letters 307 = .ok (.iconst 0, 1) := by decide +kernel
theorem dX12_letters_308 : decode cX12_letters 308 = .ok (.invokestatic 144, 3) := by decide +kernel
theorem dX12_letters_311 : decode cX12_letters 311 = .ok (.lreturn, 1) := by decide +kernel
theorem dX12_letters_312 : decode cX12_letters 312 = .ok (.bipush 110, 2) := by decide +kernel
theorem dX12_letters_314 : decode cX12_letters 314 = .ok (.bipush 111, 2) := by decide +kernel
theorem dX12_letters_316 : decode cX12_letters 316 = .ok (.bipush 116, 2) := by decide +kernel
theorem dX12_letters_318 : decode cX12_letters 318 = .ok (.iconst 0, 1) := by decide +kernel
theorem dX12_letters_319 : decode cX12_letters 319 = .ok (.iconst 0, 1) := by decide +kernel
theorem dX12_letters_320 : decode cX12_letters 320 = .ok (.iconst 0, 1) := by decide +kernel
theorem dX12_letters_321 : decode cX12_letters 321 = .ok (.iconst 0, 1) := by decide +kernel
theorem dX12_letters_322 : decode cX12_letters 322 = .ok (.invokestatic 144, 3) := by decide +kernel
theorem dX12_letters_325 : decode cX12_letters 325 = .ok (.lreturn, 1) := by decide +kernel
theorem dX12_knownWord_0 : decode cX12_knownWord 0 = .ok (.aload_n 0, 1) := by decide +kernel
theorem dX12_knownWord_1 : decode cX12_knownWord 1 = .ok (.getfield 129, 3) := by decide +kernel
theorem dX12_knownWord_4 : decode cX12_knownWord 4 = .ok (.iconst 1, 1) := by decide +kernel
theorem dX12_knownWord_5 : decode cX12_knownWord 5 = .ok (.if_icmp .ne 12, 3) := by decide +kernel
theorem dX12_knownWord_8 : decode cX12_knownWord 8 = .ok (.aload_n 0, 1) := by decide +kernel
theorem dX12_knownWord_9 : decode cX12_knownWord 9 = .ok (.getfield 139, 3) := by decide +kernel
theorem dX12_knownWord_12 : decode cX12_knownWord 12 = .ok (.bipush 7, 2) := by decide +kernel
theorem dX12_knownWord_14 : decode cX12_knownWord 14 = .ok (.if_icmp .le 5, 3) := by decide +kernel
theorem dX12_knownWord_17 : decode cX12_knownWord 17 = .ok (.iconst (-1), 1) := by decide +kernel
theorem dX12_knownWord_18 : decode cX12_knownWord 18 = .ok (.ireturn, 1) := by decide +kernel
theorem dX12_knownWord_19 : decode cX12_knownWord 19 = .ok (.iconst 0, 1) := by decide +kernel
theorem dX12_knownWord_20 : decode cX12_knownWord 20 = .ok (.istore_n 1, 1) := by decide +kernel
theorem dX12_knownWord_21 : decode cX12_knownWord 21 = .ok (.iload_n 1, 1) := by decide +kernel
theorem dX12_knownWord_22 : decode cX12_knownWord 22 = .ok (.bipush 16, 2) := by decide +kernel
theorem dX12_knownWord_24 : decode cX12_knownWord 24 = .ok (.if_icmp .ge 23, 3) := by decide +kernel
theorem dX12_knownWord_27 : decode cX12_knownWord 27 = .ok (.iload_n 1, 1) := by decide +kernel
theorem dX12_knownWord_28 : decode cX12_knownWord 28 = .ok (.invokestatic 148, 3) := by decide +kernel
theorem dX12_knownWord_31 : decode cX12_knownWord 31 = .ok (.aload_n 0, 1) := by decide +kernel
theorem dX12_knownWord_32 : decode cX12_knownWord 32 = .ok (.getfield 119, 3) := by decide +kernel
theorem dX12_knownWord_35 : decode cX12_knownWord 35 = .ok (.lcmp, 1) := by decide +kernel
theorem dX12_knownWord_36 : decode cX12_knownWord 36 = .ok (.ifCond .ne 5, 3) := by decide +kernel
theorem dX12_knownWord_39 : decode cX12_knownWord 39 = .ok (.iload_n 1, 1) := by decide +kernel
theorem dX12_knownWord_40 : decode cX12_knownWord 40 = .ok (.ireturn, 1) := by decide +kernel
theorem dX12_knownWord_41 : decode cX12_knownWord 41 = .ok (.iinc 1 1, 3) := by decide +kernel
theorem dX12_knownWord_44 : decode cX12_knownWord 44 = .ok (.goto (-23), 3) := by decide +kernel
theorem dX12_knownWord_47 : decode cX12_knownWord 47 = .ok (.iconst (-1), 1) := by decide +kernel
theorem dX12_knownWord_48 : decode cX12_knownWord 48 = .ok (.ireturn, 1) := by decide +kernel
theorem dX12_wrong_0 : decode cX12_wrong 0 = .ok (.aload_n 0, 1) := by decide +kernel
theorem dX12_wrong_1 : decode cX12_wrong 1 = .ok (.getfield 152, 3) := by decide +kernel
theorem dX12_wrong_4 : decode cX12_wrong 4 = .ok (.ifCond .eq 4, 3) := by decide +kernel
theorem dX12_wrong_7 : decode cX12_wrong 7 = .ok (.return_, 1) := by decide +kernel
theorem dX12_wrong_8 : decode cX12_wrong 8 = .ok (.aload_n 0, 1) := by decide +kernel
theorem dX12_wrong_9 : decode cX12_wrong 9 = .ok (.iload_n 1, 1) := by decide +kernel
theorem dX12_wrong_10 : decode cX12_wrong 10 = .ok (.putfield 152, 3) := by decide +kernel
theorem dX12_wrong_13 : decode cX12_wrong 13 = .ok (.aload_n 0, 1) := by decide +kernel
theorem dX12_wrong_14 : decode cX12_wrong 14 = .ok (.aload_n 0, 1) := by decide +kernel
theorem dX12_wrong_15 : decode cX12_wrong 15 = .ok (.getfield 116, 3) := by decide +kernel
theorem dX12_wrong_18 : decode cX12_wrong 18 = .ok (.putfield 26, 3) := by decide +kernel
theorem dX12_wrong_21 : decode cX12_wrong 21 = .ok (.return_, 1) := by decide +kernel
theorem dX12_isGood_0 : decode cX12_isGood 0 = .ok (.aload_n 0, 1) := by decide +kernel
theorem dX12_isGood_1 : decode cX12_isGood 1 = .ok (.getfield 152, 3) := by decide +kernel
theorem dX12_isGood_4 : decode cX12_isGood 4 = .ok (.ifCond .ne 7, 3) := by decide +kernel
theorem dX12_isGood_7 : decode cX12_isGood 7 = .ok (.iconst 1, 1) := by decide +kernel
theorem dX12_isGood_8 : decode cX12_isGood 8 = .ok (.goto 4, 3) := by decide +kernel
theorem dX12_isGood_11 : decode cX12_isGood 11 = .ok (.iconst 0, 1) := by decide +kernel
theorem dX12_isGood_12 : decode cX12_isGood 12 = .ok (.ireturn, 1) := by decide +kernel
theorem dX12_isSign_0 : decode cX12_isSign 0 = .ok (.aload_n 0, 1) := by decide +kernel
theorem dX12_isSign_1 : decode cX12_isSign 1 = .ok (.getfield 129, 3) := by decide +kernel
theorem dX12_isSign_4 : decode cX12_isSign 4 = .ok (.iconst 3, 1) := by decide +kernel
theorem dX12_isSign_5 : decode cX12_isSign 5 = .ok (.if_icmp .ne 15, 3) := by decide +kernel
theorem dX12_isSign_8 : decode cX12_isSign 8 = .ok (.aload_n 0, 1) := by decide +kernel
theorem dX12_isSign_9 : decode cX12_isSign 9 = .ok (.getfield 126, 3) := by decide +kernel
theorem dX12_isSign_12 : decode cX12_isSign 12 = .ok (.iload_n 1, 1) := by decide +kernel
theorem dX12_isSign_13 : decode cX12_isSign 13 = .ok (.if_icmp .ne 7, 3) := by decide +kernel
theorem dX12_isSign_16 : decode cX12_isSign 16 = .ok (.iconst 1, 1) := by decide +kernel
theorem dX12_isSign_17 : decode cX12_isSign 17 = .ok (.goto 4, 3) := by decide +kernel
theorem dX12_isSign_20 : decode cX12_isSign 20 = .ok (.iconst 0, 1) := by decide +kernel
theorem dX12_isSign_21 : decode cX12_isSign 21 = .ok (.ireturn, 1) := by decide +kernel
theorem dX12_need_0 : decode cX12_need 0 = .ok (.aload_n 0, 1) := by decide +kernel
theorem dX12_need_1 : decode cX12_need 1 = .ok (.invokevirtual 155, 3) := by decide +kernel
theorem dX12_need_4 : decode cX12_need 4 = .ok (.ifCond .ne 4, 3) := by decide +kernel
theorem dX12_need_7 : decode cX12_need 7 = .ok (.return_, 1) := by decide +kernel
theorem dX12_need_8 : decode cX12_need 8 = .ok (.iload_n 1, 1) := by decide +kernel
theorem dX12_need_9 : decode cX12_need 9 = .ok (.ifCond .eq 10, 3) := by decide +kernel
theorem dX12_need_12 : decode cX12_need 12 = .ok (.aload_n 0, 1) := by decide +kernel
theorem dX12_need_13 : decode cX12_need 13 = .ok (.invokevirtual 159, 3) := by decide +kernel
theorem dX12_need_16 : decode cX12_need 16 = .ok (.goto 8, 3) := by decide +kernel
theorem dX12_need_19 : decode cX12_need 19 = .ok (.aload_n 0, 1) := by decide +kernel
theorem dX12_need_20 : decode cX12_need 20 = .ok (.iconst 1, 1) := by decide +kernel
theorem dX12_need_21 : decode cX12_need 21 = .ok (.invokevirtual 162, 3) := by decide +kernel
theorem dX12_need_24 : decode cX12_need 24 = .ok (.return_, 1) := by decide +kernel
theorem dX12_number_0 : decode cX12_number 0 = .ok (.aload_n 0, 1) := by decide +kernel
theorem dX12_number_1 : decode cX12_number 1 = .ok (.invokevirtual 155, 3) := by decide +kernel
theorem dX12_number_4 : decode cX12_number 4 = .ok (.ifCond .ne 5, 3) := by decide +kernel
theorem dX12_number_7 : decode cX12_number 7 = .ok (.iconst 0, 1) := by decide +kernel
theorem dX12_number_8 : decode cX12_number 8 = .ok (.ireturn, 1) := by decide +kernel
theorem dX12_number_9 : decode cX12_number 9 = .ok (.aload_n 0, 1) := by decide +kernel
theorem dX12_number_10 : decode cX12_number 10 = .ok (.getfield 129, 3) := by decide +kernel
theorem dX12_number_13 : decode cX12_number 13 = .ok (.iconst 2, 1) := by decide +kernel
theorem dX12_number_14 : decode cX12_number 14 = .ok (.if_icmp .eq 11, 3) := by decide +kernel
theorem dX12_number_17 : decode cX12_number 17 = .ok (.aload_n 0, 1) := by decide +kernel
theorem dX12_number_18 : decode cX12_number 18 = .ok (.iconst 1, 1) := by decide +kernel
theorem dX12_number_19 : decode cX12_number 19 = .ok (.invokevirtual 162, 3) := by decide +kernel
theorem dX12_number_22 : decode cX12_number 22 = .ok (.goto 32, 3) := by decide +kernel
theorem dX12_number_25 : decode cX12_number 25 = .ok (.aload_n 0, 1) := by decide +kernel
theorem dX12_number_26 : decode cX12_number 26 = .ok (.getfield 139, 3) := by decide +kernel
theorem dX12_number_29 : decode cX12_number 29 = .ok (.iconst 4, 1) := by decide +kernel
theorem dX12_number_30 : decode cX12_number 30 = .ok (.if_icmp .gt 19, 3) := by decide +kernel
theorem dX12_number_33 : decode cX12_number 33 = .ok (.aload_n 0, 1) := by decide +kernel
theorem dX12_number_34 : decode cX12_number 34 = .ok (.getfield 123, 3) := by decide +kernel
theorem dX12_number_37 : decode cX12_number 37 = .ok (.iload_n 1, 1) := by decide +kernel
theorem dX12_number_38 : decode cX12_number 38 = .ok (.if_icmp .lt 11, 3) := by decide +kernel
theorem dX12_number_41 : decode cX12_number 41 = .ok (.aload_n 0, 1) := by decide +kernel
theorem dX12_number_42 : decode cX12_number 42 = .ok (.getfield 123, 3) := by decide +kernel
theorem dX12_number_45 : decode cX12_number 45 = .ok (.iload_n 2, 1) := by decide +kernel
theorem dX12_number_46 : decode cX12_number 46 = .ok (.if_icmp .le 8, 3) := by decide +kernel
theorem dX12_number_49 : decode cX12_number 49 = .ok (.aload_n 0, 1) := by decide +kernel
theorem dX12_number_50 : decode cX12_number 50 = .ok (.iconst 2, 1) := by decide +kernel
theorem dX12_number_51 : decode cX12_number 51 = .ok (.invokevirtual 162, 3) := by decide +kernel
theorem dX12_number_54 : decode cX12_number 54 = .ok (.aload_n 0, 1) := by decide +kernel
theorem dX12_number_55 : decode cX12_number 55 = .ok (.getfield 123, 3) := by decide +kernel
theorem dX12_number_58 : decode cX12_number 58 = .ok (.istore_n 3, 1) := by decide +kernel
theorem dX12_number_59 : decode cX12_number 59 = .ok (.aload_n 0, 1) := by decide +kernel
theorem dX12_number_60 : decode cX12_number 60 = .ok (.invokevirtual 155, 3) := by decide +kernel
