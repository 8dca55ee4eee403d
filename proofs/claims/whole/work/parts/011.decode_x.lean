theorem dX0_init_0 : decode cX0_init 0 = .ok (.aload_n 0, 1) := by decide +kernel
theorem dX0_init_1 : decode cX0_init 1 = .ok (.invokespecial 3, 3) := by decide +kernel
theorem dX0_init_4 : decode cX0_init 4 = .ok (.aload_n 0, 1) := by decide +kernel
theorem dX0_init_5 : decode cX0_init 5 = .ok (.iconst 0, 1) := by decide +kernel
theorem dX0_init_6 : decode cX0_init 6 = .ok (.putfield 9, 3) := by decide +kernel
theorem dX0_init_9 : decode cX0_init 9 = .ok (.aload_n 0, 1) := by decide +kernel
theorem dX0_init_10 : decode cX0_init 10 = .ok (.bipush 40, 2) := by decide +kernel
theorem dX0_init_12 : decode cX0_init 12 = .ok (.anewarray 15, 3) := by decide +kernel
theorem dX0_init_15 : decode cX0_init 15 = .ok (.putfield 17, 3) := by decide +kernel
theorem dX0_init_18 : decode cX0_init 18 = .ok (.return_, 1) := by decide +kernel
theorem dX0_row_0 : decode cX0_row 0 = .ok (.aload_n 0, 1) := by decide +kernel
theorem dX0_row_1 : decode cX0_row 1 = .ok (.getfield 17, 3) := by decide +kernel
theorem dX0_row_4 : decode cX0_row 4 = .ok (.iload_n 1, 1) := by decide +kernel
theorem dX0_row_5 : decode cX0_row 5 = .ok (.aaload, 1) := by decide +kernel
theorem dX0_row_6 : decode cX0_row 6 = .ok (.ifnonnull 16, 3) := by decide +kernel
theorem dX0_row_9 : decode cX0_row 9 = .ok (.aload_n 0, 1) := by decide +kernel
theorem dX0_row_10 : decode cX0_row 10 = .ok (.getfield 17, 3) := by decide +kernel
theorem dX0_row_13 : decode cX0_row 13 = .ok (.iload_n 1, 1) := by decide +kernel
theorem dX0_row_14 : decode cX0_row 14 = .ok (.new 15, 3) := by decide +kernel
theorem dX0_row_17 : decode cX0_row 17 = .ok (.dup, 1) := by decide +kernel
theorem dX0_row_18 : decode cX0_row 18 = .ok (.invokespecial 21, 3) := by decide +kernel
theorem dX0_row_21 : decode cX0_row 21 = .ok (.aastore, 1) := by decide +kernel
theorem dX0_row_22 : decode cX0_row 22 = .ok (.aload_n 0, 1) := by decide +kernel
theorem dX0_row_23 : decode cX0_row 23 = .ok (.getfield 17, 3) := by decide +kernel
theorem dX0_row_26 : decode cX0_row 26 = .ok (.iload_n 1, 1) := by decide +kernel
theorem dX0_row_27 : decode cX0_row 27 = .ok (.aaload, 1) := by decide +kernel
theorem dX0_row_28 : decode cX0_row 28 = .ok (.areturn, 1) := by decide +kernel
theorem dX0_copyFrom_0 : decode cX0_copyFrom 0 = .ok (.aload_n 0, 1) := by decide +kernel
theorem dX0_copyFrom_1 : decode cX0_copyFrom 1 = .ok (.aload_n 1, 1) := by decide +kernel
theorem dX0_copyFrom_2 : decode cX0_copyFrom 2 = .ok (.getfield 9, 3) := by decide +kernel
theorem dX0_copyFrom_5 : decode cX0_copyFrom 5 = .ok (.putfield 9, 3) := by decide +kernel
theorem dX0_copyFrom_8 : decode cX0_copyFrom 8 = .ok (.iconst 0, 1) := by decide +kernel
theorem dX0_copyFrom_9 : decode cX0_copyFrom 9 = .ok (.istore_n 2, 1) := by decide +kernel
theorem dX0_copyFrom_10 : decode cX0_copyFrom 10 = .ok (.iload_n 2, 1) := by decide +kernel
theorem dX0_copyFrom_11 : decode cX0_copyFrom 11 = .ok (.aload_n 0, 1) := by decide +kernel
theorem dX0_copyFrom_12 : decode cX0_copyFrom 12 = .ok (.getfield 9, 3) := by decide +kernel
theorem dX0_copyFrom_15 : decode cX0_copyFrom 15 = .ok (.if_icmp .ge 22, 3) := by decide +kernel
theorem dX0_copyFrom_18 : decode cX0_copyFrom 18 = .ok (.aload_n 0, 1) := by decide +kernel
theorem dX0_copyFrom_19 : decode cX0_copyFrom 19 = .ok (.iload_n 2, 1) := by decide +kernel
theorem dX0_copyFrom_20 : decode cX0_copyFrom 20 = .ok (.invokevirtual 22, 3) := by decide +kernel
theorem dX0_copyFrom_23 : decode cX0_copyFrom 23 = .ok (.aload_n 1, 1) := by decide +kernel
theorem dX0_copyFrom_24 : decode cX0_copyFrom 24 = .ok (.iload_n 2, 1) := by decide +kernel
theorem dX0_copyFrom_25 : decode cX0_copyFrom 25 = .ok (.invokevirtual 22, 3) := by decide +kernel
theorem dX0_copyFrom_28 : decode cX0_copyFrom 28 = .ok (.invokevirtual 26, 3) := by decide +kernel
theorem dX0_copyFrom_31 : decode cX0_copyFrom 31 = .ok (.iinc 2 1, 3) := by decide +kernel
theorem dX0_copyFrom_34 : decode cX0_copyFrom 34 = .ok (.goto (-24), 3) := by decide +kernel
theorem dX0_copyFrom_37 : decode cX0_copyFrom 37 = .ok (.return_, 1) := by decide +kernel
theorem dX0_keep_0 : decode cX0_keep 0 = .ok (.aload_n 0, 1) := by decide +kernel
theorem dX0_keep_1 : decode cX0_keep 1 = .ok (.getfield 9, 3) := by decide +kernel
theorem dX0_keep_4 : decode cX0_keep 4 = .ok (.bipush 40, 2) := by decide +kernel
theorem dX0_keep_6 : decode cX0_keep 6 = .ok (.if_icmp .lt 7, 3) := by decide +kernel
theorem dX0_keep_9 : decode cX0_keep 9 = .ok (.aload_n 0, 1) := by decide +kernel
theorem dX0_keep_10 : decode cX0_keep 10 = .ok (.invokevirtual 30, 3) := by decide +kernel
theorem dX0_keep_13 : decode cX0_keep 13 = .ok (.aload_n 0, 1) := by decide +kernel
theorem dX0_keep_14 : decode cX0_keep 14 = .ok (.aload_n 0, 1) := by decide +kernel
theorem dX0_keep_15 : decode cX0_keep 15 = .ok (.getfield 9, 3) := by decide +kernel
theorem dX0_keep_18 : decode cX0_keep 18 = .ok (.invokevirtual 22, 3) := by decide +kernel
theorem dX0_keep_21 : decode cX0_keep 21 = .ok (.aload_n 1, 1) := by decide +kernel
theorem dX0_keep_22 : decode cX0_keep 22 = .ok (.invokevirtual 26, 3) := by decide +kernel
theorem dX0_keep_25 : decode cX0_keep 25 = .ok (.aload_n 0, 1) := by decide +kernel
theorem dX0_keep_26 : decode cX0_keep 26 = .ok (.dup, 1) := by decide +kernel
theorem dX0_keep_27 : decode cX0_keep 27 = .ok (.getfield 9, 3) := by decide +kernel
theorem dX0_keep_30 : decode cX0_keep 30 = .ok (.iconst 1, 1) := by decide +kernel
theorem dX0_keep_31 : decode cX0_keep 31 = .ok (.iadd, 1) := by decide +kernel
theorem dX0_keep_32 : decode cX0_keep 32 = .ok (.putfield 9, 3) := by decide +kernel
theorem dX0_keep_35 : decode cX0_keep 35 = .ok (.return_, 1) := by decide +kernel
theorem dX0_dropFirst_0 : decode cX0_dropFirst 0 = .ok (.aload_n 0, 1) := by decide +kernel
theorem dX0_dropFirst_1 : decode cX0_dropFirst 1 = .ok (.getfield 17, 3) := by decide +kernel
theorem dX0_dropFirst_4 : decode cX0_dropFirst 4 = .ok (.iconst 0, 1) := by decide +kernel
theorem dX0_dropFirst_5 : decode cX0_dropFirst 5 = .ok (.aaload, 1) := by decide +kernel
theorem dX0_dropFirst_6 : decode cX0_dropFirst 6 = .ok (.astore_n 1, 1) := by decide +kernel
theorem dX0_dropFirst_7 : decode cX0_dropFirst 7 = .ok (.iconst 1, 1) := by decide +kernel
theorem dX0_dropFirst_8 : decode cX0_dropFirst 8 = .ok (.istore_n 2, 1) := by decide +kernel
theorem dX0_dropFirst_9 : decode cX0_dropFirst 9 = .ok (.iload_n 2, 1) := by decide +kernel
theorem dX0_dropFirst_10 : decode cX0_dropFirst 10 = .ok (.bipush 40, 2) := by decide +kernel
theorem dX0_dropFirst_12 : decode cX0_dropFirst 12 = .ok (.if_icmp .ge 23, 3) := by decide +kernel
theorem dX0_dropFirst_15 : decode cX0_dropFirst 15 = .ok (.aload_n 0, 1) := by decide +kernel
theorem dX0_dropFirst_16 : decode cX0_dropFirst 16 = .ok (.getfield 17, 3) := by decide +kernel
theorem dX0_dropFirst_19 : decode cX0_dropFirst 19 = .ok (.iload_n 2, 1) := by decide +kernel
theorem dX0_dropFirst_20 : decode cX0_dropFirst 20 = .ok (.iconst 1, 1) := by decide +kernel
theorem dX0_dropFirst_21 : decode cX0_dropFirst 21 = .ok (.isub, 1) := by decide +kernel
theorem dX0_dropFirst_22 : decode cX0_dropFirst 22 = .ok (.aload_n 0, 1) := by decide +kernel
theorem dX0_dropFirst_23 : decode cX0_dropFirst 23 = .ok (.getfield 17, 3) := by decide +kernel
theorem dX0_dropFirst_26 : decode cX0_dropFirst 26 = .ok (.iload_n 2, 1) := by decide +kernel
theorem dX0_dropFirst_27 : decode cX0_dropFirst 27 = .ok (.aaload, 1) := by decide +kernel
theorem dX0_dropFirst_28 : decode cX0_dropFirst 28 = .ok (.aastore, 1) := by decide +kernel
theorem dX0_dropFirst_29 : decode cX0_dropFirst 29 = .ok (.iinc 2 1, 3) := by decide +kernel
theorem dX0_dropFirst_32 : decode cX0_dropFirst 32 = .ok (.goto (-23), 3) := by decide +kernel
theorem dX0_dropFirst_35 : decode cX0_dropFirst 35 = .ok (.aload_n 0, 1) := by decide +kernel
theorem dX0_dropFirst_36 : decode cX0_dropFirst 36 = .ok (.getfield 17, 3) := by decide +kernel
theorem dX0_dropFirst_39 : decode cX0_dropFirst 39 = .ok (.bipush 39, 2) := by decide +kernel
theorem dX0_dropFirst_41 : decode cX0_dropFirst 41 = .ok (.aload_n 1, 1) := by decide +kernel
theorem dX0_dropFirst_42 : decode cX0_dropFirst 42 = .ok (.aastore, 1) := by decide +kernel
theorem dX0_dropFirst_43 : decode cX0_dropFirst 43 = .ok (.aload_n 0, 1) := by decide +kernel
theorem dX0_dropFirst_44 : decode cX0_dropFirst 44 = .ok (.bipush 39, 2) := by decide +kernel
theorem dX0_dropFirst_46 : decode cX0_dropFirst 46 = .ok (.putfield 9, 3) := by decide +kernel
theorem dX0_dropFirst_49 : decode cX0_dropFirst 49 = .ok (.return_, 1) := by decide +kernel
theorem dX0_takeBack_0 : decode cX0_takeBack 0 = .ok (.aload_n 0, 1) := by decide +kernel
theorem dX0_takeBack_1 : decode cX0_takeBack 1 = .ok (.getfield 9, 3) := by decide +kernel
theorem dX0_takeBack_4 : decode cX0_takeBack 4 = .ok (.ifCond .le 25, 3) := by decide +kernel
theorem dX0_takeBack_7 : decode cX0_takeBack 7 = .ok (.aload_n 0, 1) := by decide +kernel
theorem dX0_takeBack_8 : decode cX0_takeBack 8 = .ok (.dup, 1) := by decide +kernel
theorem dX0_takeBack_9 : decode cX0_takeBack 9 = .ok (.getfield 9, 3) := by decide +kernel
theorem dX0_takeBack_12 : decode cX0_takeBack 12 = .ok (.iconst 1, 1) := by decide +kernel
theorem dX0_takeBack_13 : decode cX0_takeBack 13 = .ok (.isub, 1) := by decide +kernel
theorem dX0_takeBack_14 : decode cX0_takeBack 14 = .ok (.putfield 9, 3) := by decide +kernel
theorem dX0_takeBack_17 : decode cX0_takeBack 17 = .ok (.aload_n 1, 1) := by decide +kernel
theorem dX0_takeBack_18 : decode cX0_takeBack 18 = .ok (.aload_n 0, 1) := by decide +kernel
theorem dX0_takeBack_19 : decode cX0_takeBack 19 = .ok (.aload_n 0, 1) := by decide +kernel
theorem dX0_takeBack_20 : decode cX0_takeBack 20 = .ok (.getfield 9, 3) := by decide +kernel
theorem dX0_takeBack_23 : decode cX0_takeBack 23 = .ok (.invokevirtual 22, 3) := by decide +kernel
theorem dX0_takeBack_26 : decode cX0_takeBack 26 = .ok (.invokevirtual 26, 3) := by decide +kernel
theorem dX0_takeBack_29 : decode cX0_takeBack 29 = .ok (.return_, 1) := by decide +kernel
theorem dX1_init_0 : decode cX1_init 0 = .ok (.aload_n 0, 1) := by decide +kernel
theorem dX1_init_1 : decode cX1_init 1 = .ok (.invokespecial 3, 3) := by decide +kernel
theorem dX1_init_4 : decode cX1_init 4 = .ok (.aload_n 0, 1) := by decide +kernel
theorem dX1_init_5 : decode cX1_init 5 = .ok (.sipush 201, 3) := by decide +kernel
theorem dX1_init_8 : decode cX1_init 8 = .ok (.anewarray 9, 3) := by decide +kernel
theorem dX1_init_11 : decode cX1_init 11 = .ok (.putfield 11, 3) := by decide +kernel
theorem dX1_init_14 : decode cX1_init 14 = .ok (.aload_n 0, 1) := by decide +kernel
theorem dX1_init_15 : decode cX1_init 15 = .ok (.sipush 201, 3) := by decide +kernel
theorem dX1_init_18 : decode cX1_init 18 = .ok (.newarray .int, 2) := by decide +kernel
theorem dX1_init_20 : decode cX1_init 20 = .ok (.putfield 17, 3) := by decide +kernel
theorem dX1_init_23 : decode cX1_init 23 = .ok (.aload_n 0, 1) := by decide +kernel
theorem dX1_init_24 : decode cX1_init 24 = .ok (.sipush 201, 3) := by decide +kernel
theorem dX1_init_27 : decode cX1_init 27 = .ok (.newarray .long, 2) := by decide +kernel
theorem dX1_init_29 : decode cX1_init 29 = .ok (.putfield 21, 3) := by decide +kernel
theorem dX1_init_32 : decode cX1_init 32 = .ok (.aload_n 0, 1) := by decide +kernel
theorem dX1_init_33 : decode cX1_init 33 = .ok (.new 25, 3) := by decide +kernel
theorem dX1_init_36 : decode cX1_init 36 = .ok (.dup, 1) := by decide +kernel
theorem dX1_init_37 : decode cX1_init 37 = .ok (.invokespecial 27, 3) := by decide +kernel
theorem dX1_init_40 : decode cX1_init 40 = .ok (.putfield 28, 3) := by decide +kernel
theorem dX1_init_43 : decode cX1_init 43 = .ok (.aload_n 0, 1) := by decide +kernel
theorem dX1_init_44 : decode cX1_init 44 = .ok (.iconst 0, 1) := by decide +kernel
theorem dX1_init_45 : decode cX1_init 45 = .ok (.putfield 32, 3) := by decide +kernel
theorem dX1_init_48 : decode cX1_init 48 = .ok (.aload_n 0, 1) := by decide +kernel
theorem dX1_init_49 : decode cX1_init 49 = .ok (.aload_n 1, 1) := by decide +kernel
theorem dX1_init_50 : decode cX1_init 50 = .ok (.putfield 36, 3) := by decide +kernel
theorem dX1_init_53 : decode cX1_init 53 = .ok (.aload_n 0, 1) := by decide +kernel
theorem dX1_init_54 : decode cX1_init 54 = .ok (.aload_n 2, 1) := by decide +kernel
theorem dX1_init_55 : decode cX1_init 55 = .ok (.putfield 40, 3) := by decide +kernel
theorem dX1_init_58 : decode cX1_init 58 = .ok (.aload_n 0, 1) := by decide +kernel
theorem dX1_init_59 : decode cX1_init 59 = .ok (.getfield 11, 3) := by decide +kernel
theorem dX1_init_62 : decode cX1_init 62 = .ok (.iconst 0, 1) := by decide +kernel
theorem dX1_init_63 : decode cX1_init 63 = .ok (.aload_n 2, 1) := by decide +kernel
theorem dX1_init_64 : decode cX1_init 64 = .ok (.aastore, 1) := by decide +kernel
theorem dX1_init_65 : decode cX1_init 65 = .ok (.return_, 1) := by decide +kernel
theorem dX1_changed_0 : decode cX1_changed 0 = .ok (.aload_n 0, 1) := by decide +kernel
theorem dX1_changed_1 : decode cX1_changed 1 = .ok (.iconst 0, 1) := by decide +kernel
theorem dX1_changed_2 : decode cX1_changed 2 = .ok (.putfield 32, 3) := by decide +kernel
theorem dX1_changed_5 : decode cX1_changed 5 = .ok (.return_, 1) := by decide +kernel
theorem dX1_row_0 : decode cX1_row 0 = .ok (.aload_n 0, 1) := by decide +kernel
theorem dX1_row_1 : decode cX1_row 1 = .ok (.getfield 11, 3) := by decide +kernel
theorem dX1_row_4 : decode cX1_row 4 = .ok (.iload_n 1, 1) := by decide +kernel
theorem dX1_row_5 : decode cX1_row 5 = .ok (.aaload, 1) := by decide +kernel
theorem dX1_row_6 : decode cX1_row 6 = .ok (.ifnonnull 16, 3) := by decide +kernel
theorem dX1_row_9 : decode cX1_row 9 = .ok (.aload_n 0, 1) := by decide +kernel
theorem dX1_row_10 : decode cX1_row 10 = .ok (.getfield 11, 3) := by decide +kernel
theorem dX1_row_13 : decode cX1_row 13 = .ok (.iload_n 1, 1) := by decide +kernel
theorem dX1_row_14 : decode cX1_row 14 = .ok (.new 9, 3) := by decide +kernel
theorem dX1_row_17 : decode cX1_row 17 = .ok (.dup, 1) := by decide +kernel
theorem dX1_row_18 : decode cX1_row 18 = .ok (.invokespecial 44, 3) := by decide +kernel
theorem dX1_row_21 : decode cX1_row 21 = .ok (.aastore, 1) := by decide +kernel
theorem dX1_row_22 : decode cX1_row 22 = .ok (.aload_n 0, 1) := by decide +kernel
theorem dX1_row_23 : decode cX1_row 23 = .ok (.getfield 11, 3) := by decide +kernel
theorem dX1_row_26 : decode cX1_row 26 = .ok (.iload_n 1, 1) := by decide +kernel
theorem dX1_row_27 : decode cX1_row 27 = .ok (.aaload, 1) := by decide +kernel
theorem dX1_row_28 : decode cX1_row 28 = .ok (.areturn, 1) := by decide +kernel
theorem dX1_behind_0 : decode cX1_behind 0 = .ok (.aload_n 0, 1) := by decide +kernel
theorem dX1_behind_1 : decode cX1_behind 1 = .ok (.getfield 32, 3) := by decide +kernel
theorem dX1_behind_4 : decode cX1_behind 4 = .ok (.istore_n 2, 1) := by decide +kernel
theorem dX1_behind_5 : decode cX1_behind 5 = .ok (.iload_n 2, 1) := by decide +kernel
theorem dX1_behind_6 : decode cX1_behind 6 = .ok (.iload_n 1, 1) := by decide +kernel
theorem dX1_behind_7 : decode cX1_behind 7 = .ok (.if_icmp .ge 57, 3) := by decide +kernel
theorem dX1_behind_10 : decode cX1_behind 10 = .ok (.iload_n 2, 1) := by decide +kernel
theorem dX1_behind_11 : decode cX1_behind 11 = .ok (.sipush 200, 3) := by decide +kernel
theorem dX1_behind_14 : decode cX1_behind 14 = .ok (.if_icmp .ge 50, 3) := by decide +kernel
theorem dX1_behind_17 : decode cX1_behind 17 = .ok (.aload_n 0, 1) := by decide +kernel
theorem dX1_behind_18 : decode cX1_behind 18 = .ok (.iload_n 2, 1) := by decide +kernel
theorem dX1_behind_19 : decode cX1_behind 19 = .ok (.iconst 1, 1) := by decide +kernel
theorem dX1_behind_20 : decode cX1_behind 20 = .ok (.iadd, 1) := by decide +kernel
theorem dX1_behind_21 : decode cX1_behind 21 = .ok (.invokevirtual 45, 3) := by decide +kernel
theorem dX1_behind_24 : decode cX1_behind 24 = .ok (.astore_n 3, 1) := by decide +kernel
theorem dX1_behind_25 : decode cX1_behind 25 = .ok (.aload_n 3, 1) := by decide +kernel
theorem dX1_behind_26 : decode cX1_behind 26 = .ok (.aload_n 0, 1) := by decide +kernel
theorem dX1_behind_27 : decode cX1_behind 27 = .ok (.iload_n 2, 1) := by decide +kernel
theorem dX1_behind_28 : decode cX1_behind 28 = .ok (.invokevirtual 45, 3) := by decide +kernel
theorem dX1_behind_31 : decode cX1_behind 31 = .ok (.invokevirtual 49, 3) := by decide +kernel
theorem dX1_behind_34 : decode cX1_behind 34 = .ok (.aload_n 0, 1) := by decide +kernel
theorem dX1_behind_35 : decode cX1_behind 35 = .ok (.getfield 17, 3) := by decide +kernel
theorem dX1_behind_38 : decode cX1_behind 38 = .ok (.iload_n 2, 1) := by decide +kernel
theorem dX1_behind_39 : decode cX1_behind 39 = .ok (.iconst 1, 1) := by decide +kernel
theorem dX1_behind_40 : decode cX1_behind 40 = .ok (.iadd, 1) := by decide +kernel
theorem dX1_behind_41 : decode cX1_behind 41 = .ok (.aload_n 0, 1) := by decide +kernel
theorem dX1_behind_42 : decode cX1_behind 42 = .ok (.getfield 36, 3) := by decide +kernel
theorem dX1_behind_45 : decode cX1_behind 45 = .ok (.aload_n 3, 1) := by decide +kernel
theorem dX1_behind_46 : decode cX1_behind 46 = .ok (.iconst 0, 1) := by decide +kernel
theorem dX1_behind_47 : decode cX1_behind 47 = .ok (.invokevirtual 53, 3) := by decide +kernel
theorem dX1_behind_50 : decode cX1_behind 50 = .ok (.iastore, 1) := by decide +kernel
theorem dX1_behind_51 : decode cX1_behind 51 = .ok (.aload_n 0, 1) := by decide +kernel
theorem dX1_behind_52 : decode cX1_behind 52 = .ok (.iload_n 2, 1) := by decide +kernel
theorem dX1_behind_53 : decode cX1_behind 53 = .ok (.iconst 1, 1) := by decide +kernel
theorem dX1_behind_54 : decode cX1_behind 54 = .ok (.iadd, 1) := by decide +kernel
theorem dX1_behind_55 : decode cX1_behind 55 = .ok (.putfield 32, 3) := by decide +kernel
theorem dX1_behind_58 : decode cX1_behind 58 = .ok (.iinc 2 1, 3) := by decide +kernel
theorem dX1_behind_61 : decode cX1_behind 61 = .ok (.goto (-56), 3) := by decide +kernel
theorem dX1_behind_64 : decode cX1_behind 64 = .ok (.aload_n 0, 1) := by decide +kernel
theorem dX1_behind_65 : decode cX1_behind 65 = .ok (.iload_n 1, 1) := by decide +kernel
theorem dX1_behind_66 : decode cX1_behind 66 = .ok (.invokevirtual 45, 3) := by decide +kernel
theorem dX1_behind_69 : decode cX1_behind 69 = .ok (.areturn, 1) := by decide +kernel
theorem dX1_firstWith_0 : decode cX1_firstWith 0 = .ok (.iconst 0, 1) := by decide +kernel
theorem dX1_firstWith_1 : decode cX1_firstWith 1 = .ok (.istore 4, 2) := by decide +kernel
theorem dX1_firstWith_3 : decode cX1_firstWith 3 = .ok (.iload 4, 2) := by decide +kernel
theorem dX1_firstWith_5 : decode cX1_firstWith 5 = .ok (.bipush 100, 2) := by decide +kernel
theorem dX1_firstWith_7 : decode cX1_firstWith 7 = .ok (.if_icmp .gt 27, 3) := by decide +kernel
theorem dX1_firstWith_10 : decode cX1_firstWith 10 = .ok (.aload_n 0, 1) := by decide +kernel
theorem dX1_firstWith_11 : decode cX1_firstWith 11 = .ok (.iload 4, 2) := by decide +kernel
theorem dX1_firstWith_13 : decode cX1_firstWith 13 = .ok (.invokevirtual 59, 3) := by decide +kernel
theorem dX1_firstWith_16 : decode cX1_firstWith 16 = .ok (.iload_n 1, 1) := by decide +kernel
theorem dX1_firstWith_17 : decode cX1_firstWith 17 = .ok (.iload_n 2, 1) := by decide +kernel
theorem dX1_firstWith_18 : decode cX1_firstWith 18 = .ok (.invokevirtual 62, 3) := by decide +kernel
theorem dX1_firstWith_21 : decode cX1_firstWith 21 = .ok (.iload_n 3, 1) := by decide +kernel
theorem dX1_firstWith_22 : decode cX1_firstWith 22 = .ok (.if_icmp .ne 6, 3) := by decide +kernel
theorem dX1_firstWith_25 : decode cX1_firstWith 25 = .ok (.iload 4, 2) := by decide +kernel
theorem dX1_firstWith_27 : decode cX1_firstWith 27 = .ok (.ireturn, 1) := by decide +kernel
theorem dX1_firstWith_28 : decode cX1_firstWith 28 = .ok (.iinc 4 1, 3) := by decide +kernel
theorem dX1_firstWith_31 : decode cX1_firstWith 31 = .ok (.goto (-28), 3) := by decide +kernel
theorem dX1_firstWith_34 : decode cX1_firstWith 34 = .ok (.iconst (-1), 1) := by decide +kernel
theorem dX1_firstWith_35 : decode cX1_firstWith 35 = .ok (.ireturn, 1) := by decide +kernel
theorem dX1_firstGoing_0 : decode cX1_firstGoing 0 = .ok (.iconst 1, 1) := by decide +kernel
theorem dX1_firstGoing_1 : decode cX1_firstGoing 1 = .ok (.istore_n 2, 1) := by decide +kernel
theorem dX1_firstGoing_2 : decode cX1_firstGoing 2 = .ok (.iload_n 2, 1) := by decide +kernel
theorem dX1_firstGoing_3 : decode cX1_firstGoing 3 = .ok (.bipush 100, 2) := by decide +kernel
theorem dX1_firstGoing_5 : decode cX1_firstGoing 5 = .ok (.if_icmp .gt 30, 3) := by decide +kernel
theorem dX1_firstGoing_8 : decode cX1_firstGoing 8 = .ok (.aload_n 0, 1) := by decide +kernel
theorem dX1_firstGoing_9 : decode cX1_firstGoing 9 = .ok (.iload_n 2, 1) := by decide +kernel
theorem dX1_firstGoing_10 : decode cX1_firstGoing 10 = .ok (.invokevirtual 59, 3) := by decide +kernel
theorem dX1_firstGoing_13 : decode cX1_firstGoing 13 = .ok (.pop, 1) := by decide +kernel
theorem dX1_firstGoing_14 : decode cX1_firstGoing 14 = .ok (.aload_n 0, 1) := by decide +kernel
theorem dX1_firstGoing_15 : decode cX1_firstGoing 15 = .ok (.getfield 17, 3) := by decide +kernel
theorem dX1_firstGoing_18 : decode cX1_firstGoing 18 = .ok (.iload_n 2, 1) := by decide +kernel
theorem dX1_firstGoing_19 : decode cX1_firstGoing 19 = .ok (.iaload, 1) := by decide +kernel
theorem dX1_firstGoing_20 : decode cX1_firstGoing 20 = .ok (.iload_n 1, 1) := by decide +kernel
theorem dX1_firstGoing_21 : decode cX1_firstGoing 21 = .ok (.ishr, 1) := by decide +kernel
theorem dX1_firstGoing_22 : decode cX1_firstGoing 22 = .ok (.iconst 1, 1) := by decide +kernel
theorem dX1_firstGoing_23 : decode cX1_firstGoing 23 = .ok (.iand, 1) := by decide +kernel
theorem dX1_firstGoing_24 : decode cX1_firstGoing 24 = .ok (.ifCond .eq 5, 3) := by decide +kernel
theorem dX1_firstGoing_27 : decode cX1_firstGoing 27 = .ok (.iload_n 2, 1) := by decide +kernel
theorem dX1_firstGoing_28 : decode cX1_firstGoing 28 = .ok (.ireturn, 1) := by decide +kernel
theorem dX1_firstGoing_29 : decode cX1_firstGoing 29 = .ok (.iinc 2 1, 3) := by decide +kernel
theorem dX1_firstGoing_32 : decode cX1_firstGoing 32 = .ok (.goto (-30), 3) := by decide +kernel
theorem dX1_firstGoing_35 : decode cX1_firstGoing 35 = .ok (.iconst (-1), 1) := by decide +kernel
theorem dX1_firstGoing_36 : decode cX1_firstGoing 36 = .ok (.ireturn, 1) := by decide +kernel
theorem dX1_longestStay_0 : decode cX1_longestStay 0 = .ok (.iconst 0, 1) := by decide +kernel
theorem dX1_longestStay_1 : decode cX1_longestStay 1 = .ok (.istore_n 2, 1) := by decide +kernel
theorem dX1_longestStay_2 : decode cX1_longestStay 2 = .ok (.iconst 0, 1) := by decide +kernel
theorem dX1_longestStay_3 : decode cX1_longestStay 3 = .ok (.istore_n 3, 1) := by decide +kernel
theorem dX1_longestStay_4 : decode cX1_longestStay 4 = .ok (.iconst 1, 1) := by decide +kernel
theorem dX1_longestStay_5 : decode cX1_longestStay 5 = .ok (.istore 4, 2) := by decide +kernel
theorem dX1_longestStay_7 : decode cX1_longestStay 7 = .ok (.iload 4, 2) := by decide +kernel
theorem dX1_longestStay_9 : decode cX1_longestStay 9 = .ok (.bipush 100, 2) := by decide +kernel
theorem dX1_longestStay_11 : decode cX1_longestStay 11 = .ok (.if_icmp .gt 44, 3) := by decide +kernel
theorem dX1_longestStay_14 : decode cX1_longestStay 14 = .ok (.aload_n 0, 1) := by decide +kernel
theorem dX1_longestStay_15 : decode cX1_longestStay 15 = .ok (.iload 4, 2) := by decide +kernel
theorem dX1_longestStay_17 : decode cX1_longestStay 17 = .ok (.invokevirtual 59, 3) := by decide +kernel
theorem dX1_longestStay_20 : decode cX1_longestStay 20 = .ok (.pop, 1) := by decide +kernel
theorem dX1_longestStay_21 : decode cX1_longestStay 21 = .ok (.aload_n 0, 1) := by decide +kernel
theorem dX1_longestStay_22 : decode cX1_longestStay 22 = .ok (.getfield 17, 3) := by decide +kernel
theorem dX1_longestStay_25 : decode cX1_longestStay 25 = .ok (.iload 4, 2) := by decide +kernel
theorem dX1_longestStay_27 : decode cX1_longestStay 27 = .ok (.iaload, 1) := by decide +kernel
theorem dX1_longestStay_28 : decode cX1_longestStay 28 = .ok (.iload_n 1, 1) := by decide +kernel
theorem dX1_longestStay_29 : decode cX1_longestStay 29 = .ok (.ishr, 1) := by decide +kernel
theorem dX1_longestStay_30 : decode cX1_longestStay 30 = .ok (.iconst 1, 1) := by decide +kernel
theorem dX1_longestStay_31 : decode cX1_longestStay 31 = .ok (.iand, 1) := by decide +kernel
theorem dX1_longestStay_32 : decode cX1_longestStay 32 = .ok (.ifCond .eq 7, 3) := by decide +kernel
theorem dX1_longestStay_35 : decode cX1_longestStay 35 = .ok (.iconst 0, 1) := by decide +kernel
theorem dX1_longestStay_36 : decode cX1_longestStay 36 = .ok (.goto 6, 3) := by decide +kernel
theorem dX1_longestStay_39 : decode cX1_longestStay 39 = .ok (.iload_n 3, 1) := by decide +kernel
theorem dX1_longestStay_40 : decode cX1_longestStay 40 = .ok (.iconst 1, 1) := by decide +kernel
theorem dX1_longestStay_41 : decode cX1_longestStay 41 = .ok (.iadd, 1) := by decide +kernel
theorem dX1_longestStay_42 : decode cX1_longestStay 42 = .ok (.istore_n 3, 1) := by decide +kernel
theorem dX1_longestStay_43 : decode cX1_longestStay 43 = .ok (.iload_n 2, 1) := by decide +kernel
theorem dX1_longestStay_44 : decode cX1_longestStay 44 = .ok (.iload_n 3, 1) := by decide +kernel
theorem dX1_longestStay_45 : decode cX1_longestStay 45 = .ok (.invokestatic 66, 3) := by decide +kernel
theorem dX1_longestStay_48 : decode cX1_longestStay 48 = .ok (.istore_n 2, 1) := by decide +kernel
theorem dX1_longestStay_49 : decode cX1_longestStay 49 = .ok (.iinc 4 1, 3) := by decide +kernel
theorem dX1_longestStay_52 : decode cX1_longestStay 52 = .ok (.goto (-45), 3) := by decide +kernel
theorem dX1_longestStay_55 : decode cX1_longestStay 55 = .ok (.iload_n 2, 1) := by decide +kernel
theorem dX1_longestStay_56 : decode cX1_longestStay 56 = .ok (.ireturn, 1) := by decide +kernel
theorem dX1_firstEmpty_0 : decode cX1_firstEmpty 0 = .ok (.aload_n 0, 1) := by decide +kernel
theorem dX1_firstEmpty_1 : decode cX1_firstEmpty 1 = .ok (.getfield 40, 3) := by decide +kernel
theorem dX1_firstEmpty_4 : decode cX1_firstEmpty 4 = .ok (.iload_n 1, 1) := by decide +kernel
theorem dX1_firstEmpty_5 : decode cX1_firstEmpty 5 = .ok (.invokevirtual 72, 3) := by decide +kernel
theorem dX1_firstEmpty_8 : decode cX1_firstEmpty 8 = .ok (.istore_n 2, 1) := by decide +kernel
theorem dX1_firstEmpty_9 : decode cX1_firstEmpty 9 = .ok (.iconst 1, 1) := by decide +kernel
theorem dX1_firstEmpty_10 : decode cX1_firstEmpty 10 = .ok (.istore_n 3, 1) := by decide +kernel
theorem dX1_firstEmpty_11 : decode cX1_firstEmpty 11 = .ok (.iload_n 3, 1) := by decide +kernel
theorem dX1_firstEmpty_12 : decode cX1_firstEmpty 12 = .ok (.bipush 100, 2) := by decide +kernel
theorem dX1_firstEmpty_14 : decode cX1_firstEmpty 14 = .ok (.if_icmp .gt 32, 3) := by decide +kernel
theorem dX1_firstEmpty_17 : decode cX1_firstEmpty 17 = .ok (.aload_n 0, 1) := by decide +kernel
theorem dX1_firstEmpty_18 : decode cX1_firstEmpty 18 = .ok (.iload_n 3, 1) := by decide +kernel
theorem dX1_firstEmpty_19 : decode cX1_firstEmpty 19 = .ok (.invokevirtual 59, 3) := by decide +kernel
theorem dX1_firstEmpty_22 : decode cX1_firstEmpty 22 = .ok (.pop, 1) := by decide +kernel
theorem dX1_firstEmpty_23 : decode cX1_firstEmpty 23 = .ok (.iload_n 2, 1) := by decide +kernel
theorem dX1_firstEmpty_24 : decode cX1_firstEmpty 24 = .ok (.aload_n 0, 1) := by decide +kernel
theorem dX1_firstEmpty_25 : decode cX1_firstEmpty 25 = .ok (.getfield 17, 3) := by decide +kernel
theorem dX1_firstEmpty_28 : decode cX1_firstEmpty 28 = .ok (.iload_n 3, 1) := by decide +kernel
theorem dX1_firstEmpty_29 : decode cX1_firstEmpty 29 = .ok (.iaload, 1) := by decide +kernel
theorem dX1_firstEmpty_30 : decode cX1_firstEmpty 30 = .ok (.iconst (-1), 1) := by decide +kernel
theorem dX1_firstEmpty_31 : decode cX1_firstEmpty 31 = .ok (.ixor, 1) := by decide +kernel
theorem dX1_firstEmpty_32 : decode cX1_firstEmpty 32 = .ok (.iand, 1) := by decide +kernel
theorem dX1_firstEmpty_33 : decode cX1_firstEmpty 33 = .ok (.istore_n 2, 1) := by decide +kernel
theorem dX1_firstEmpty_34 : decode cX1_firstEmpty 34 = .ok (.iload_n 2, 1) := by decide +kernel
theorem dX1_firstEmpty_35 : decode cX1_firstEmpty 35 = .ok (.ifCond .ne 5, 3) := by decide +kernel
theorem dX1_firstEmpty_38 : decode cX1_firstEmpty 38 = .ok (.iload_n 3, 1) := by decide +kernel
theorem dX1_firstEmpty_39 : decode cX1_firstEmpty 39 = .ok (.ireturn, 1) := by decide +kernel
theorem dX1_firstEmpty_40 : decode cX1_firstEmpty 40 = .ok (.iinc 3 1, 3) := by decide +kernel
theorem dX1_firstEmpty_43 : decode cX1_firstEmpty 43 = .ok (.goto (-32), 3) := by decide +kernel
theorem dX1_firstEmpty_46 : decode cX1_firstEmpty 46 = .ok (.iconst (-1), 1) := by decide +kernel
theorem dX1_firstEmpty_47 : decode cX1_firstEmpty 47 = .ok (.ireturn, 1) := by decide +kernel
theorem dX1_sizesRound_0 : decode cX1_sizesRound 0 = .ok (.iconst 0, 1) := by decide +kernel
theorem dX1_sizesRound_1 : decode cX1_sizesRound 1 = .ok (.istore_n 2, 1) := by decide +kernel
theorem dX1_sizesRound_2 : decode cX1_sizesRound 2 = .ok (.iload_n 2, 1) := by decide +kernel
theorem dX1_sizesRound_3 : decode cX1_sizesRound 3 = .ok (.sipush 200, 3) := by decide +kernel
theorem dX1_sizesRound_6 : decode cX1_sizesRound 6 = .ok (.if_icmp .gt 23, 3) := by decide +kernel
theorem dX1_sizesRound_9 : decode cX1_sizesRound 9 = .ok (.aload_n 0, 1) := by decide +kernel
theorem dX1_sizesRound_10 : decode cX1_sizesRound 10 = .ok (.getfield 21, 3) := by decide +kernel
theorem dX1_sizesRound_13 : decode cX1_sizesRound 13 = .ok (.iload_n 2, 1) := by decide +kernel
theorem dX1_sizesRound_14 : decode cX1_sizesRound 14 = .ok (.aload_n 0, 1) := by decide +kernel
theorem dX1_sizesRound_15 : decode cX1_sizesRound 15 = .ok (.iload_n 2, 1) := by decide +kernel
theorem dX1_sizesRound_16 : decode cX1_sizesRound 16 = .ok (.invokevirtual 59, 3) := by decide +kernel
theorem dX1_sizesRound_19 : decode cX1_sizesRound 19 = .ok (.invokevirtual 76, 3) := by decide +kernel
theorem dX1_sizesRound_22 : decode cX1_sizesRound 22 = .ok (.lastore, 1) := by decide +kernel
theorem dX1_sizesRound_23 : decode cX1_sizesRound 23 = .ok (.iinc 2 1, 3) := by decide +kernel
theorem dX1_sizesRound_26 : decode cX1_sizesRound 26 = .ok (.goto (-24), 3) := by decide +kernel
theorem dX1_sizesRound_29 : decode cX1_sizesRound 29 = .ok (.iconst 0, 1) := by decide +kernel
theorem dX1_sizesRound_30 : decode cX1_sizesRound 30 = .ok (.istore_n 2, 1) := by decide +kernel
theorem dX1_sizesRound_31 : decode cX1_sizesRound 31 = .ok (.iload_n 2, 1) := by decide +kernel
theorem dX1_sizesRound_32 : decode cX1_sizesRound 32 = .ok (.sipush 200, 3) := by decide +kernel
theorem dX1_sizesRound_35 : decode cX1_sizesRound 35 = .ok (.if_icmp .ge 54, 3) := by decide +kernel
theorem dX1_sizesRound_38 : decode cX1_sizesRound 38 = .ok (.iload_n 2, 1) := by decide +kernel
theorem dX1_sizesRound_39 : decode cX1_sizesRound 39 = .ok (.iconst 1, 1) := by decide +kernel
theorem dX1_sizesRound_40 : decode cX1_sizesRound 40 = .ok (.iadd, 1) := by decide +kernel
theorem dX1_sizesRound_41 : decode cX1_sizesRound 41 = .ok (.istore_n 3, 1) := by decide +kernel
theorem dX1_sizesRound_42 : decode cX1_sizesRound 42 = .ok (.iload_n 3, 1) := by decide +kernel
theorem dX1_sizesRound_43 : decode cX1_sizesRound 43 = .ok (.sipush 200, 3) := by decide +kernel
theorem dX1_sizesRound_46 : decode cX1_sizesRound 46 = .ok (.if_icmp .gt 37, 3) := by decide +kernel
theorem dX1_sizesRound_49 : decode cX1_sizesRound 49 = .ok (.aload_n 0, 1) := by decide +kernel
theorem dX1_sizesRound_50 : decode cX1_sizesRound 50 = .ok (.getfield 21, 3) := by decide +kernel
theorem dX1_sizesRound_53 : decode cX1_sizesRound 53 = .ok (.iload_n 2, 1) := by decide +kernel
theorem dX1_sizesRound_54 : decode cX1_sizesRound 54 = .ok (.laload, 1) := by decide +kernel
theorem dX1_sizesRound_55 : decode cX1_sizesRound 55 = .ok (.aload_n 0, 1) := by decide +kernel
theorem dX1_sizesRound_56 : decode cX1_sizesRound 56 = .ok (.getfield 21, 3) := by decide +kernel
theorem dX1_sizesRound_59 : decode cX1_sizesRound 59 = .ok (.iload_n 3, 1) := by decide +kernel
theorem dX1_sizesRound_60 : decode cX1_sizesRound 60 = .ok (.laload, 1) := by decide +kernel
theorem dX1_sizesRound_61 : decode cX1_sizesRound 61 = .ok (.lcmp, 1) := by decide +kernel
theorem dX1_sizesRound_62 : decode cX1_sizesRound 62 = .ok (.ifCond .ne 15, 3) := by decide +kernel
theorem dX1_sizesRound_65 : decode cX1_sizesRound 65 = .ok (.iload_n 1, 1) := by decide +kernel
theorem dX1_sizesRound_66 : decode cX1_sizesRound 66 = .ok (.ifCond .eq 7, 3) := by decide +kernel
theorem dX1_sizesRound_69 : decode cX1_sizesRound 69 = .ok (.iload_n 2, 1) := by decide +kernel
theorem dX1_sizesRound_70 : decode cX1_sizesRound 70 = .ok (.goto 6, 3) := by decide +kernel
theorem dX1_sizesRound_73 : decode cX1_sizesRound 73 = .ok (.iload_n 3, 1) := by decide +kernel
theorem dX1_sizesRound_74 : decode cX1_sizesRound 74 = .ok (.iload_n 2, 1) := by decide +kernel
theorem dX1_sizesRound_75 : decode cX1_sizesRound 75 = .ok (.isub, 1) := by decide +kernel
theorem dX1_sizesRound_76 : decode cX1_sizesRound 76 = .ok (.ireturn, 1) := by decide +kernel
theorem dX1_sizesRound_77 : decode cX1_sizesRound 77 = .ok (.iinc 3 1, 3) := by decide +kernel
theorem dX1_sizesRound_80 : decode cX1_sizesRound 80 = .ok (.goto (-38), 3) := by decide +kernel
theorem dX1_sizesRound_83 : decode cX1_sizesRound 83 = .ok (.iinc 2 1, 3) := by decide +kernel
theorem dX1_sizesRound_86 : decode cX1_sizesRound 86 = .ok (.goto (-55), 3) := by decide +kernel
theorem dX1_sizesRound_89 : decode cX1_sizesRound 89 = .ok (.iconst (-1), 1) := by decide +kernel
theorem dX1_sizesRound_90 : decode cX1_sizesRound 90 = .ok (.ireturn, 1) := by decide +kernel
theorem dX1_firstAsNow_0 : decode cX1_firstAsNow 0 = .ok (.iconst 1, 1) := by decide +kernel
theorem dX1_firstAsNow_1 : decode cX1_firstAsNow 1 = .ok (.istore_n 1, 1) := by decide +kernel
theorem dX1_firstAsNow_2 : decode cX1_firstAsNow 2 = .ok (.iload_n 1, 1) := by decide +kernel
theorem dX1_firstAsNow_3 : decode cX1_firstAsNow 3 = .ok (.sipush 200, 3) := by decide +kernel
theorem dX1_firstAsNow_6 : decode cX1_firstAsNow 6 = .ok (.if_icmp .gt 23, 3) := by decide +kernel
theorem dX1_firstAsNow_9 : decode cX1_firstAsNow 9 = .ok (.aload_n 0, 1) := by decide +kernel
theorem dX1_firstAsNow_10 : decode cX1_firstAsNow 10 = .ok (.aload_n 0, 1) := by decide +kernel
theorem dX1_firstAsNow_11 : decode cX1_firstAsNow 11 = .ok (.iload_n 1, 1) := by decide +kernel
theorem dX1_firstAsNow_12 : decode cX1_firstAsNow 12 = .ok (.invokevirtual 59, 3) := by decide +kernel
theorem dX1_firstAsNow_15 : decode cX1_firstAsNow 15 = .ok (.invokevirtual 80, 3) := by decide +kernel
theorem dX1_firstAsNow_18 : decode cX1_firstAsNow 18 = .ok (.ifCond .eq 5, 3) := by decide +kernel
theorem dX1_firstAsNow_21 : decode cX1_firstAsNow 21 = .ok (.iload_n 1, 1) := by decide +kernel
theorem dX1_firstAsNow_22 : decode cX1_firstAsNow 22 = .ok (.ireturn, 1) := by decide +kernel
theorem dX1_firstAsNow_23 : decode cX1_firstAsNow 23 = .ok (.iinc 1 1, 3) := by decide +kernel
theorem dX1_firstAsNow_26 : decode cX1_firstAsNow 26 = .ok (.goto (-24), 3) := by decide +kernel
theorem dX1_firstAsNow_29 : decode cX1_firstAsNow 29 = .ok (.iconst (-1), 1) := by decide +kernel
theorem dX1_firstAsNow_30 : decode cX1_firstAsNow 30 = .ok (.ireturn, 1) := by decide +kernel
theorem dX1_isAsNow_0 : decode cX1_isAsNow 0 = .ok (.iconst 0, 1) := by decide +kernel
theorem dX1_isAsNow_1 : decode cX1_isAsNow 1 = .ok (.istore_n 2, 1) := by decide +kernel
theorem dX1_isAsNow_2 : decode cX1_isAsNow 2 = .ok (.iload_n 2, 1) := by decide +kernel
theorem dX1_isAsNow_3 : decode cX1_isAsNow 3 = .ok (.aload_n 1, 1) := by decide +kernel
theorem dX1_isAsNow_4 : decode cX1_isAsNow 4 = .ok (.getfield 84, 3) := by decide +kernel
theorem dX1_isAsNow_7 : decode cX1_isAsNow 7 = .ok (.if_icmp .ge 27, 3) := by decide +kernel
theorem dX1_isAsNow_10 : decode cX1_isAsNow 10 = .ok (.aload_n 1, 1) := by decide +kernel
theorem dX1_isAsNow_11 : decode cX1_isAsNow 11 = .ok (.iload_n 2, 1) := by decide +kernel
theorem dX1_isAsNow_12 : decode cX1_isAsNow 12 = .ok (.invokevirtual 87, 3) := by decide +kernel
theorem dX1_isAsNow_15 : decode cX1_isAsNow 15 = .ok (.aload_n 0, 1) := by decide +kernel
theorem dX1_isAsNow_16 : decode cX1_isAsNow 16 = .ok (.getfield 40, 3) := by decide +kernel
theorem dX1_isAsNow_19 : decode cX1_isAsNow 19 = .ok (.iload_n 2, 1) := by decide +kernel
theorem dX1_isAsNow_20 : decode cX1_isAsNow 20 = .ok (.invokevirtual 87, 3) := by decide +kernel
theorem dX1_isAsNow_23 : decode cX1_isAsNow 23 = .ok (.if_icmp .eq 5, 3) := by decide +kernel
theorem dX1_isAsNow_26 : decode cX1_isAsNow 26 = .ok (.iconst 0, 1) := by decide +kernel
theorem dX1_isAsNow_27 : decode cX1_isAsNow 27 = .ok (.ireturn, 1) := by decide +kernel
theorem dX1_isAsNow_28 : decode cX1_isAsNow 28 = .ok (.iinc 2 1, 3) := by decide +kernel
theorem dX1_isAsNow_31 : decode cX1_isAsNow 31 = .ok (.goto (-29), 3) := by decide +kernel
theorem dX1_isAsNow_34 : decode cX1_isAsNow 34 = .ok (.iconst 1, 1) := by decide +kernel
theorem dX1_isAsNow_35 : decode cX1_isAsNow 35 = .ok (.ireturn, 1) := by decide +kernel
theorem dX1_knownWithin_0 : decode cX1_knownWithin 0 = .ok (.aload_n 0, 1) := by decide +kernel
theorem dX1_knownWithin_1 : decode cX1_knownWithin 1 = .ok (.getfield 28, 3) := by decide +kernel
theorem dX1_knownWithin_4 : decode cX1_knownWithin 4 = .ok (.invokevirtual 90, 3) := by decide +kernel
theorem dX1_knownWithin_7 : decode cX1_knownWithin 7 = .ok (.iconst 0, 1) := by decide +kernel
theorem dX1_knownWithin_8 : decode cX1_knownWithin 8 = .ok (.istore_n 2, 1) := by decide +kernel
theorem dX1_knownWithin_9 : decode cX1_knownWithin 9 = .ok (.iload_n 2, 1) := by decide +kernel
theorem dX1_knownWithin_10 : decode cX1_knownWithin 10 = .ok (.iload_n 1, 1) := by decide +kernel
theorem dX1_knownWithin_11 : decode cX1_knownWithin 11 = .ok (.if_icmp .gt 21, 3) := by decide +kernel
theorem dX1_knownWithin_14 : decode cX1_knownWithin 14 = .ok (.aload_n 0, 1) := by decide +kernel
theorem dX1_knownWithin_15 : decode cX1_knownWithin 15 = .ok (.getfield 28, 3) := by decide +kernel
theorem dX1_knownWithin_18 : decode cX1_knownWithin 18 = .ok (.aload_n 0, 1) := by decide +kernel
theorem dX1_knownWithin_19 : decode cX1_knownWithin 19 = .ok (.iload_n 2, 1) := by decide +kernel
theorem dX1_knownWithin_20 : decode cX1_knownWithin 20 = .ok (.invokevirtual 59, 3) := by decide +kernel
theorem dX1_knownWithin_23 : decode cX1_knownWithin 23 = .ok (.invokevirtual 93, 3) := by decide +kernel
theorem dX1_knownWithin_26 : decode cX1_knownWithin 26 = .ok (.iinc 2 1, 3) := by decide +kernel
theorem dX1_knownWithin_29 : decode cX1_knownWithin 29 = .ok (.goto (-20), 3) := by decide +kernel
theorem dX1_knownWithin_32 : decode cX1_knownWithin 32 = .ok (.aload_n 0, 1) := by decide +kernel
theorem dX1_knownWithin_33 : decode cX1_knownWithin 33 = .ok (.getfield 28, 3) := by decide +kernel
theorem dX1_knownWithin_36 : decode cX1_knownWithin 36 = .ok (.areturn, 1) := by decide +kernel
theorem dX1_untilAllKnown_0 : decode cX1_untilAllKnown 0 = .ok (.aload_n 0, 1) := by decide +kernel
theorem dX1_untilAllKnown_1 : decode cX1_untilAllKnown 1 = .ok (.getfield 28, 3) := by decide +kernel
theorem dX1_untilAllKnown_4 : decode cX1_untilAllKnown 4 = .ok (.invokevirtual 90, 3) := by decide +kernel
theorem dX1_untilAllKnown_7 : decode cX1_untilAllKnown 7 = .ok (.iconst 0, 1) := by decide +kernel
theorem dX1_untilAllKnown_8 : decode cX1_untilAllKnown 8 = .ok (.istore_n 1, 1) := by decide +kernel
theorem dX1_untilAllKnown_9 : decode cX1_untilAllKnown 9 = .ok (.iload_n 1, 1) := by decide +kernel
theorem dX1_untilAllKnown_10 : decode cX1_untilAllKnown 10 = .ok (.bipush 100, 2) := by decide +kernel
theorem dX1_untilAllKnown_12 : decode cX1_untilAllKnown 12 = .ok (.if_icmp .gt 40, 3) := by decide +kernel
theorem dX1_untilAllKnown_15 : decode cX1_untilAllKnown 15 = .ok (.aload_n 0, 1) := by decide +kernel
theorem dX1_untilAllKnown_16 : decode cX1_untilAllKnown 16 = .ok (.getfield 28, 3) := by decide +kernel
theorem dX1_untilAllKnown_19 : decode cX1_untilAllKnown 19 = .ok (.aload_n 0, 1) := by decide +kernel
theorem dX1_untilAllKnown_20 : decode cX1_untilAllKnown 20 = .ok (.iload_n 1, 1) := by decide +kernel
theorem dX1_untilAllKnown_21 : decode cX1_untilAllKnown 21 = .ok (.invokevirtual 59, 3) := by decide +kernel
theorem dX1_untilAllKnown_24 : decode cX1_untilAllKnown 24 = .ok (.invokevirtual 93, 3) := by decide +kernel
theorem dX1_untilAllKnown_27 : decode cX1_untilAllKnown 27 = .ok (.aload_n 0, 1) := by decide +kernel
theorem dX1_untilAllKnown_28 : decode cX1_untilAllKnown 28 = .ok (.getfield 28, 3) := by decide +kernel
theorem dX1_untilAllKnown_31 : decode cX1_untilAllKnown 31 = .ok (.aload_n 0, 1) := by decide +kernel
theorem dX1_untilAllKnown_32 : decode cX1_untilAllKnown 32 = .ok (.getfield 40, 3) := by decide +kernel
theorem dX1_untilAllKnown_35 : decode cX1_untilAllKnown 35 = .ok (.getfield 84, 3) := by decide +kernel
theorem dX1_untilAllKnown_38 : decode cX1_untilAllKnown 38 = .ok (.invokevirtual 96, 3) := by decide +kernel
theorem dX1_untilAllKnown_41 : decode cX1_untilAllKnown 41 = .ok (.ifCond .eq 5, 3) := by decide +kernel
theorem dX1_untilAllKnown_44 : decode cX1_untilAllKnown 44 = .ok (.iload_n 1, 1) := by decide +kernel
theorem dX1_untilAllKnown_45 : decode cX1_untilAllKnown 45 = .ok (.ireturn, 1) := by decide +kernel
theorem dX1_untilAllKnown_46 : decode cX1_untilAllKnown 46 = .ok (.iinc 1 1, 3) := by decide +kernel
theorem dX1_untilAllKnown_49 : decode cX1_untilAllKnown 49 = .ok (.goto (-40), 3) := by decide +kernel
theorem dX1_untilAllKnown_52 : decode cX1_untilAllKnown 52 = .ok (.iconst (-1), 1) := by decide +kernel
theorem dX1_untilAllKnown_53 : decode cX1_untilAllKnown 53 = .ok (.ireturn, 1) := by decide +kernel
theorem dX1_mostRestless_0 : decode cX1_mostRestless 0 = .ok (.aload_n 0, 1) := by decide +kernel
theorem dX1_mostRestless_1 : decode cX1_mostRestless 1 = .ok (.iload_n 1, 1) := by decide +kernel
theorem dX1_mostRestless_2 : decode cX1_mostRestless 2 = .ok (.invokevirtual 59, 3) := by decide +kernel
theorem dX1_mostRestless_5 : decode cX1_mostRestless 5 = .ok (.astore_n 2, 1) := by decide +kernel
theorem dX1_mostRestless_6 : decode cX1_mostRestless 6 = .ok (.iconst (-1), 1) := by decide +kernel
theorem dX1_mostRestless_7 : decode cX1_mostRestless 7 = .ok (.istore_n 3, 1) := by decide +kernel
theorem dX1_mostRestless_8 : decode cX1_mostRestless 8 = .ok (.iconst 0, 1) := by decide +kernel
theorem dX1_mostRestless_9 : decode cX1_mostRestless 9 = .ok (.istore 4, 2) := by decide +kernel
theorem dX1_mostRestless_11 : decode cX1_mostRestless 11 = .ok (.iconst 0, 1) := by decide +kernel
theorem dX1_mostRestless_12 : decode cX1_mostRestless 12 = .ok (.istore 5, 2) := by decide +kernel
theorem dX1_mostRestless_14 : decode cX1_mostRestless 14 = .ok (.iload 5, 2) := by decide +kernel
theorem dX1_mostRestless_16 : decode cX1_mostRestless 16 = .ok (.aload_n 2, 1) := by decide +kernel
theorem dX1_mostRestless_17 : decode cX1_mostRestless 17 = .ok (.getfield 84, 3) := by decide +kernel
theorem dX1_mostRestless_20 : decode cX1_mostRestless 20 = .ok (.if_icmp .ge 43, 3) := by decide +kernel
theorem dX1_mostRestless_23 : decode cX1_mostRestless 23 = .ok (.aload_n 2, 1) := by decide +kernel
theorem dX1_mostRestless_24 : decode cX1_mostRestless 24 = .ok (.getfield 100, 3) := by decide +kernel
theorem dX1_mostRestless_27 : decode cX1_mostRestless 27 = .ok (.iload 5, 2) := by decide +kernel
theorem dX1_mostRestless_29 : decode cX1_mostRestless 29 = .ok (.iaload, 1) := by decide +kernel
theorem dX1_mostRestless_30 : decode cX1_mostRestless 30 = .ok (.aload_n 0, 1) := by decide +kernel
theorem dX1_mostRestless_31 : decode cX1_mostRestless 31 = .ok (.getfield 40, 3) := by decide +kernel
theorem dX1_mostRestless_34 : decode cX1_mostRestless 34 = .ok (.getfield 100, 3) := by decide +kernel
theorem dX1_mostRestless_37 : decode cX1_mostRestless 37 = .ok (.iload 5, 2) := by decide +kernel
theorem dX1_mostRestless_39 : decode cX1_mostRestless 39 = .ok (.iaload, 1) := by decide +kernel
theorem dX1_mostRestless_40 : decode cX1_mostRestless 40 = .ok (.isub, 1) := by decide +kernel
theorem dX1_mostRestless_41 : decode cX1_mostRestless 41 = .ok (.istore 6, 2) := by decide +kernel
theorem dX1_mostRestless_43 : decode cX1_mostRestless 43 = .ok (.iload 6, 2) := by decide +kernel
theorem dX1_mostRestless_45 : decode cX1_mostRestless 45 = .ok (.iload 4, 2) := by decide +kernel
theorem dX1_mostRestless_47 : decode cX1_mostRestless 47 = .ok (.if_icmp .le 10, 3) := by decide +kernel
theorem dX1_mostRestless_50 : decode cX1_mostRestless 50 = .ok (.iload 5, 2) := by decide +kernel
theorem dX1_mostRestless_52 : decode cX1_mostRestless 52 = .ok (.istore_n 3, 1) := by decide +kernel
theorem dX1_mostRestless_53 : decode cX1_mostRestless 53 = .ok (.iload 6, 2) := by decide +kernel
theorem dX1_mostRestless_55 : decode cX1_mostRestless 55 = .ok (.istore 4, 2) := by decide +kernel
theorem dX1_mostRestless_57 : decode cX1_mostRestless 57 = .ok (.iinc 5 1, 3) := by decide +kernel
theorem dX1_mostRestless_60 : decode cX1_mostRestless 60 = .ok (.goto (-46), 3) := by decide +kernel
theorem dX1_mostRestless_63 : decode cX1_mostRestless 63 = .ok (.iload_n 3, 1) := by decide +kernel
theorem dX1_mostRestless_64 : decode cX1_mostRestless 64 = .ok (.ireturn, 1) := by decide +kernel
theorem dX2_init_0 : decode cX2_init 0 = .ok (.aload_n 0, 1) := by decide +kernel
theorem dX2_init_1 : decode cX2_init 1 = .ok (.invokespecial 3, 3) := by decide +kernel
theorem dX2_init_4 : decode cX2_init 4 = .ok (.aload_n 0, 1) := by decide +kernel
theorem dX2_init_5 : decode cX2_init 5 = .ok (.new 9, 3) := by decide +kernel
theorem dX2_init_8 : decode cX2_init 8 = .ok (.dup, 1) := by decide +kernel
theorem dX2_init_9 : decode cX2_init 9 = .ok (.invokespecial 11, 3) := by decide +kernel
theorem dX2_init_12 : decode cX2_init 12 = .ok (.putfield 12, 3) := by decide +kernel
theorem dX2_init_15 : decode cX2_init 15 = .ok (.aload_n 0, 1) := by decide +kernel
theorem dX2_init_16 : decode cX2_init 16 = .ok (.new 9, 3) := by decide +kernel
theorem dX2_init_19 : decode cX2_init 19 = .ok (.dup, 1) := by decide +kernel
theorem dX2_init_20 : decode cX2_init 20 = .ok (.invokespecial 11, 3) := by decide +kernel
theorem dX2_init_23 : decode cX2_init 23 = .ok (.putfield 18, 3) := by decide +kernel
theorem dX2_init_26 : decode cX2_init 26 = .ok (.aload_n 0, 1) := by decide +kernel
theorem dX2_init_27 : decode cX2_init 27 = .ok (.bipush 13, 2) := by decide +kernel
theorem dX2_init_29 : decode cX2_init 29 = .ok (.newarray .int, 2) := by decide +kernel
theorem dX2_init_31 : decode cX2_init 31 = .ok (.putfield 21, 3) := by decide +kernel
theorem dX2_init_34 : decode cX2_init 34 = .ok (.aload_n 0, 1) := by decide +kernel
theorem dX2_init_35 : decode cX2_init 35 = .ok (.bipush 13, 2) := by decide +kernel
theorem dX2_init_37 : decode cX2_init 37 = .ok (.newarray .int, 2) := by decide +kernel
theorem dX2_init_39 : decode cX2_init 39 = .ok (.putfield 25, 3) := by decide +kernel
theorem dX2_init_42 : decode cX2_init 42 = .ok (.aload_n 0, 1) := by decide +kernel
theorem dX2_init_43 : decode cX2_init 43 = .ok (.bipush 13, 2) := by decide +kernel
theorem dX2_init_45 : decode cX2_init 45 = .ok (.newarray .int, 2) := by decide +kernel
theorem dX2_init_47 : decode cX2_init 47 = .ok (.putfield 28, 3) := by decide +kernel
theorem dX2_init_50 : decode cX2_init 50 = .ok (.aload_n 0, 1) := by decide +kernel
theorem dX2_init_51 : decode cX2_init 51 = .ok (.bipush 9, 2) := by decide +kernel
theorem dX2_init_53 : decode cX2_init 53 = .ok (.newarray .int, 2) := by decide +kernel
theorem dX2_init_55 : decode cX2_init 55 = .ok (.putfield 31, 3) := by decide +kernel
theorem dX2_init_58 : decode cX2_init 58 = .ok (.return_, 1) := by decide +kernel
theorem dX2_leaverOf_0 : decode cX2_leaverOf 0 = .ok (.aload_n 0, 1) := by decide +kernel
theorem dX2_leaverOf_1 : decode cX2_leaverOf 1 = .ok (.aload_n 1, 1) := by decide +kernel
theorem dX2_leaverOf_2 : decode cX2_leaverOf 2 = .ok (.iconst 0, 1) := by decide +kernel
theorem dX2_leaverOf_3 : decode cX2_leaverOf 3 = .ok (.invokevirtual 34, 3) := by decide +kernel
theorem dX2_leaverOf_6 : decode cX2_leaverOf 6 = .ok (.aload_n 0, 1) := by decide +kernel
theorem dX2_leaverOf_7 : decode cX2_leaverOf 7 = .ok (.getfield 21, 3) := by decide +kernel
theorem dX2_leaverOf_10 : decode cX2_leaverOf 10 = .ok (.iload_n 2, 1) := by decide +kernel
theorem dX2_leaverOf_11 : decode cX2_leaverOf 11 = .ok (.iaload, 1) := by decide +kernel
theorem dX2_leaverOf_12 : decode cX2_leaverOf 12 = .ok (.ireturn, 1) := by decide +kernel
theorem dX2_pass_0 : decode cX2_pass 0 = .ok (.aload_n 0, 1) := by decide +kernel
theorem dX2_pass_1 : decode cX2_pass 1 = .ok (.aload_n 1, 1) := by decide +kernel
theorem dX2_pass_2 : decode cX2_pass 2 = .ok (.iload_n 2, 1) := by decide +kernel
theorem dX2_pass_3 : decode cX2_pass 3 = .ok (.invokevirtual 34, 3) := by decide +kernel
theorem dX2_pass_6 : decode cX2_pass 6 = .ok (.aload_n 0, 1) := by decide +kernel
theorem dX2_pass_7 : decode cX2_pass 7 = .ok (.aload_n 1, 1) := by decide +kernel
theorem dX2_pass_8 : decode cX2_pass 8 = .ok (.invokevirtual 38, 3) := by decide +kernel
theorem dX2_pass_11 : decode cX2_pass 11 = .ok (.aload_n 0, 1) := by decide +kernel
theorem dX2_pass_12 : decode cX2_pass 12 = .ok (.aload_n 1, 1) := by decide +kernel
theorem dX2_pass_13 : decode cX2_pass 13 = .ok (.invokevirtual 42, 3) := by decide +kernel
theorem dX2_pass_16 : decode cX2_pass 16 = .ok (.istore_n 3, 1) := by decide +kernel
theorem dX2_pass_17 : decode cX2_pass 17 = .ok (.aload_n 1, 1) := by decide +kernel
theorem dX2_pass_18 : decode cX2_pass 18 = .ok (.dup, 1) := by decide +kernel
theorem dX2_pass_19 : decode cX2_pass 19 = .ok (.getfield 46, 3) := by decide +kernel
theorem dX2_pass_22 : decode cX2_pass 22 = .ok (.iconst 1, 1) := by decide +kernel
theorem dX2_pass_23 : decode cX2_pass 23 = .ok (.iadd, 1) := by decide +kernel
theorem dX2_pass_24 : decode cX2_pass 24 = .ok (.putfield 46, 3) := by decide +kernel
theorem dX2_pass_27 : decode cX2_pass 27 = .ok (.aload_n 1, 1) := by decide +kernel
theorem dX2_pass_28 : decode cX2_pass 28 = .ok (.invokevirtual 52, 3) := by decide +kernel
theorem dX2_pass_31 : decode cX2_pass 31 = .ok (.iload_n 3, 1) := by decide +kernel
theorem dX2_pass_32 : decode cX2_pass 32 = .ok (.ireturn, 1) := by decide +kernel
theorem dX2_choose_0 : decode cX2_choose 0 = .ok (.aload_n 0, 1) := by decide +kernel
theorem dX2_choose_1 : decode cX2_choose 1 = .ok (.getfield 18, 3) := by decide +kernel
theorem dX2_choose_4 : decode cX2_choose 4 = .ok (.getfield 55, 3) := by decide +kernel
theorem dX2_choose_7 : decode cX2_choose 7 = .ok (.ifCond .eq 11, 3) := by decide +kernel
theorem dX2_choose_10 : decode cX2_choose 10 = .ok (.aload_n 0, 1) := by decide +kernel
theorem dX2_choose_11 : decode cX2_choose 11 = .ok (.aload_n 1, 1) := by decide +kernel
theorem dX2_choose_12 : decode cX2_choose 12 = .ok (.invokevirtual 59, 3) := by decide +kernel
theorem dX2_choose_15 : decode cX2_choose 15 = .ok (.goto 4, 3) := by decide +kernel
theorem dX2_choose_18 : decode cX2_choose 18 = .ok (.iconst 0, 1) := by decide +kernel
theorem dX2_choose_19 : decode cX2_choose 19 = .ok (.istore_n 3, 1) := by decide +kernel
theorem dX2_choose_20 : decode cX2_choose 20 = .ok (.aload_n 0, 1) := by decide +kernel
theorem dX2_choose_21 : decode cX2_choose 21 = .ok (.getfield 21, 3) := by decide +kernel
theorem dX2_choose_24 : decode cX2_choose 24 = .ok (.iconst (-1), 1) := by decide +kernel
theorem dX2_choose_25 : decode cX2_choose 25 = .ok (.invokestatic 62, 3) := by decide +kernel
theorem dX2_choose_28 : decode cX2_choose 28 = .ok (.iconst 0, 1) := by decide +kernel
theorem dX2_choose_29 : decode cX2_choose 29 = .ok (.istore 4, 2) := by decide +kernel
theorem dX2_choose_31 : decode cX2_choose 31 = .ok (.iload 4, 2) := by decide +kernel
theorem dX2_choose_33 : decode cX2_choose 33 = .ok (.aload_n 1, 1) := by decide +kernel
theorem dX2_choose_34 : decode cX2_choose 34 = .ok (.getfield 68, 3) := by decide +kernel
theorem dX2_choose_37 : decode cX2_choose 37 = .ok (.if_icmp .ge 144, 3) := by decide +kernel
theorem dX2_choose_40 : decode cX2_choose 40 = .ok (.aload_n 1, 1) := by decide +kernel
theorem dX2_choose_41 : decode cX2_choose 41 = .ok (.getfield 71, 3) := by decide +kernel
theorem dX2_choose_44 : decode cX2_choose 44 = .ok (.iload 4, 2) := by decide +kernel
theorem dX2_choose_46 : decode cX2_choose 46 = .ok (.iaload, 1) := by decide +kernel
theorem dX2_choose_47 : decode cX2_choose 47 = .ok (.istore 5, 2) := by decide +kernel
theorem dX2_choose_49 : decode cX2_choose 49 = .ok (.iload_n 3, 1) := by decide +kernel
theorem dX2_choose_50 : decode cX2_choose 50 = .ok (.iload 5, 2) := by decide +kernel
theorem dX2_choose_52 : decode cX2_choose 52 = .ok (.ishr, 1) := by decide +kernel
theorem dX2_choose_53 : decode cX2_choose 53 = .ok (.iconst 1, 1) := by decide +kernel
theorem dX2_choose_54 : decode cX2_choose 54 = .ok (.iand, 1) := by decide +kernel
theorem dX2_choose_55 : decode cX2_choose 55 = .ok (.ifCond .ne 120, 3) := by decide +kernel
theorem dX2_choose_58 : decode cX2_choose 58 = .ok (.iload_n 2, 1) := by decide +kernel
theorem dX2_choose_59 : decode cX2_choose 59 = .ok (.iload 4, 2) := by decide +kernel
theorem dX2_choose_61 : decode cX2_choose 61 = .ok (.ishr, 1) := by decide +kernel
theorem dX2_choose_62 : decode cX2_choose 62 = .ok (.iconst 1, 1) := by decide +kernel
theorem dX2_choose_63 : decode cX2_choose 63 = .ok (.iand, 1) := by decide +kernel
theorem dX2_choose_64 : decode cX2_choose 64 = .ok (.ifCond .ne 111, 3) := by decide +kernel
theorem dX2_choose_67 : decode cX2_choose 67 = .ok (.aload_n 0, 1) := by decide +kernel
theorem dX2_choose_68 : decode cX2_choose 68 = .ok (.getfield 12, 3) := by decide +kernel
theorem dX2_choose_71 : decode cX2_choose 71 = .ok (.getfield 55, 3) := by decide +kernel
theorem dX2_choose_74 : decode cX2_choose 74 = .ok (.ifCond .eq 24, 3) := by decide +kernel
theorem dX2_choose_77 : decode cX2_choose 77 = .ok (.aload_n 1, 1) := by decide +kernel
theorem dX2_choose_78 : decode cX2_choose 78 = .ok (.getfield 74, 3) := by decide +kernel
theorem dX2_choose_81 : decode cX2_choose 81 = .ok (.iload 5, 2) := by decide +kernel
theorem dX2_choose_83 : decode cX2_choose 83 = .ok (.iaload, 1) := by decide +kernel
theorem dX2_choose_84 : decode cX2_choose 84 = .ok (.iconst 1, 1) := by decide +kernel
theorem dX2_choose_85 : decode cX2_choose 85 = .ok (.if_icmp .le 13, 3) := by decide +kernel
theorem dX2_choose_88 : decode cX2_choose 88 = .ok (.aload_n 0, 1) := by decide +kernel
theorem dX2_choose_89 : decode cX2_choose 89 = .ok (.aload_n 1, 1) := by decide +kernel
theorem dX2_choose_90 : decode cX2_choose 90 = .ok (.iload 4, 2) := by decide +kernel
theorem dX2_choose_92 : decode cX2_choose 92 = .ok (.invokevirtual 77, 3) := by decide +kernel
theorem dX2_choose_95 : decode cX2_choose 95 = .ok (.goto 4, 3) := by decide +kernel
theorem dX2_choose_98 : decode cX2_choose 98 = .ok (.iconst 0, 1) := by decide +kernel
theorem dX2_choose_99 : decode cX2_choose 99 = .ok (.istore 6, 2) := by decide +kernel
theorem dX2_choose_101 : decode cX2_choose 101 = .ok (.aload_n 0, 1) := by decide +kernel
theorem dX2_choose_102 : decode cX2_choose 102 = .ok (.getfield 21, 3) := by decide +kernel
theorem dX2_choose_105 : decode cX2_choose 105 = .ok (.iload 5, 2) := by decide +kernel
theorem dX2_choose_107 : decode cX2_choose 107 = .ok (.iaload, 1) := by decide +kernel
theorem dX2_choose_108 : decode cX2_choose 108 = .ok (.istore 7, 2) := by decide +kernel
theorem dX2_choose_110 : decode cX2_choose 110 = .ok (.iload 7, 2) := by decide +kernel
theorem dX2_choose_112 : decode cX2_choose 112 = .ok (.iconst (-1), 1) := by decide +kernel
theorem dX2_choose_113 : decode cX2_choose 113 = .ok (.if_icmp .eq 44, 3) := by decide +kernel
theorem dX2_choose_116 : decode cX2_choose 116 = .ok (.iload 6, 2) := by decide +kernel
theorem dX2_choose_118 : decode cX2_choose 118 = .ok (.aload_n 0, 1) := by decide +kernel
theorem dX2_choose_119 : decode cX2_choose 119 = .ok (.getfield 25, 3) := by decide +kernel
theorem dX2_choose_122 : decode cX2_choose 122 = .ok (.iload 5, 2) := by decide +kernel
theorem dX2_choose_124 : decode cX2_choose 124 = .ok (.iaload, 1) := by decide +kernel
theorem dX2_choose_125 : decode cX2_choose 125 = .ok (.if_icmp .gt 32, 3) := by decide +kernel
theorem dX2_choose_128 : decode cX2_choose 128 = .ok (.iload 6, 2) := by decide +kernel
theorem dX2_choose_130 : decode cX2_choose 130 = .ok (.aload_n 0, 1) := by decide +kernel
theorem dX2_choose_131 : decode cX2_choose 131 = .ok (.getfield 25, 3) := by decide +kernel
theorem dX2_choose_134 : decode cX2_choose 134 = .ok (.iload 5, 2) := by decide +kernel
theorem dX2_choose_136 : decode cX2_choose 136 = .ok (.iaload, 1) := by decide +kernel
theorem dX2_choose_137 : decode cX2_choose 137 = .ok (.if_icmp .ne 38, 3) := by decide +kernel
theorem dX2_choose_140 : decode cX2_choose 140 = .ok (.aload_n 1, 1) := by decide +kernel
theorem dX2_choose_141 : decode cX2_choose 141 = .ok (.getfield 81, 3) := by decide +kernel
theorem dX2_choose_144 : decode cX2_choose 144 = .ok (.iload 4, 2) := by decide +kernel
theorem dX2_choose_146 : decode cX2_choose 146 = .ok (.iaload, 1) := by decide +kernel
theorem dX2_choose_147 : decode cX2_choose 147 = .ok (.aload_n 1, 1) := by decide +kernel
theorem dX2_choose_148 : decode cX2_choose 148 = .ok (.getfield 81, 3) := by decide +kernel
theorem dX2_choose_151 : decode cX2_choose 151 = .ok (.iload 7, 2) := by decide +kernel
theorem dX2_choose_153 : decode cX2_choose 153 = .ok (.iaload, 1) := by decide +kernel
theorem dX2_choose_154 : decode cX2_choose 154 = .ok (.if_icmp .le 21, 3) := by decide +kernel
theorem dX2_choose_157 : decode cX2_choose 157 = .ok (.aload_n 0, 1) := by decide +kernel
theorem dX2_choose_158 : decode cX2_choose 158 = .ok (.getfield 21, 3) := by decide +kernel
theorem dX2_choose_161 : decode cX2_choose 161 = .ok (.iload 5, 2) := by decide +kernel
theorem dX2_choose_163 : decode cX2_choose 163 = .ok (.iload 4, 2) := by decide +kernel
theorem dX2_choose_165 : decode cX2_choose 165 = .ok (.iastore, 1) := by decide +kernel
theorem dX2_choose_166 : decode cX2_choose 166 = .ok (.aload_n 0, 1) := by decide +kernel
theorem dX2_choose_167 : decode cX2_choose 167 = .ok (.getfield 25, 3) := by decide +kernel
theorem dX2_choose_170 : decode cX2_choose 170 = .ok (.iload 5, 2) := by decide +kernel
theorem dX2_choose_172 : decode cX2_choose 172 = .ok (.iload 6, 2) := by decide +kernel
theorem dX2_choose_174 : decode cX2_choose 174 = .ok (.iastore, 1) := by decide +kernel
theorem dX2_choose_175 : decode cX2_choose 175 = .ok (.iinc 4 1, 3) := by decide +kernel
theorem dX2_choose_178 : decode cX2_choose 178 = .ok (.goto (-147), 3) := by decide +kernel
theorem dX2_choose_181 : decode cX2_choose 181 = .ok (.return_, 1) := by decide +kernel
theorem dX2_worthOf_0 : decode cX2_worthOf 0 = .ok (.aload_n 0, 1) := by decide +kernel
theorem dX2_worthOf_1 : decode cX2_worthOf 1 = .ok (.getfield 31, 3) := by decide +kernel
theorem dX2_worthOf_4 : decode cX2_worthOf 4 = .ok (.iconst 0, 1) := by decide +kernel
theorem dX2_worthOf_5 : decode cX2_worthOf 5 = .ok (.aload_n 1, 1) := by decide +kernel
theorem dX2_worthOf_6 : decode cX2_worthOf 6 = .ok (.getfield 84, 3) := by decide +kernel
theorem dX2_worthOf_9 : decode cX2_worthOf 9 = .ok (.iload_n 2, 1) := by decide +kernel
theorem dX2_worthOf_10 : decode cX2_worthOf 10 = .ok (.iaload, 1) := by decide +kernel
theorem dX2_worthOf_11 : decode cX2_worthOf 11 = .ok (.iastore, 1) := by decide +kernel
theorem dX2_worthOf_12 : decode cX2_worthOf 12 = .ok (.aload_n 0, 1) := by decide +kernel
theorem dX2_worthOf_13 : decode cX2_worthOf 13 = .ok (.getfield 31, 3) := by decide +kernel
theorem dX2_worthOf_16 : decode cX2_worthOf 16 = .ok (.iconst 1, 1) := by decide +kernel
theorem dX2_worthOf_17 : decode cX2_worthOf 17 = .ok (.aload_n 1, 1) := by decide +kernel
theorem dX2_worthOf_18 : decode cX2_worthOf 18 = .ok (.getfield 81, 3) := by decide +kernel
theorem dX2_worthOf_21 : decode cX2_worthOf 21 = .ok (.iload_n 2, 1) := by decide +kernel
theorem dX2_worthOf_22 : decode cX2_worthOf 22 = .ok (.iaload, 1) := by decide +kernel
theorem dX2_worthOf_23 : decode cX2_worthOf 23 = .ok (.iastore, 1) := by decide +kernel
theorem dX2_worthOf_24 : decode cX2_worthOf 24 = .ok (.aload_n 0, 1) := by decide +kernel
theorem dX2_worthOf_25 : decode cX2_worthOf 25 = .ok (.getfield 31, 3) := by decide +kernel
theorem dX2_worthOf_28 : decode cX2_worthOf 28 = .ok (.iconst 2, 1) := by decide +kernel
theorem dX2_worthOf_29 : decode cX2_worthOf 29 = .ok (.aload_n 1, 1) := by decide +kernel
theorem dX2_worthOf_30 : decode cX2_worthOf 30 = .ok (.iload_n 2, 1) := by decide +kernel
theorem dX2_worthOf_31 : decode cX2_worthOf 31 = .ok (.invokevirtual 87, 3) := by decide +kernel
theorem dX2_worthOf_34 : decode cX2_worthOf 34 = .ok (.iastore, 1) := by decide +kernel
theorem dX2_worthOf_35 : decode cX2_worthOf 35 = .ok (.aload_n 0, 1) := by decide +kernel
theorem dX2_worthOf_36 : decode cX2_worthOf 36 = .ok (.getfield 31, 3) := by decide +kernel
theorem dX2_worthOf_39 : decode cX2_worthOf 39 = .ok (.iconst 3, 1) := by decide +kernel
theorem dX2_worthOf_40 : decode cX2_worthOf 40 = .ok (.aload_n 1, 1) := by decide +kernel
theorem dX2_worthOf_41 : decode cX2_worthOf 41 = .ok (.getfield 91, 3) := by decide +kernel
theorem dX2_worthOf_44 : decode cX2_worthOf 44 = .ok (.iload_n 2, 1) := by decide +kernel
theorem dX2_worthOf_45 : decode cX2_worthOf 45 = .ok (.iaload, 1) := by decide +kernel
theorem dX2_worthOf_46 : decode cX2_worthOf 46 = .ok (.iastore, 1) := by decide +kernel
theorem dX2_worthOf_47 : decode cX2_worthOf 47 = .ok (.aload_n 0, 1) := by decide +kernel
theorem dX2_worthOf_48 : decode cX2_worthOf 48 = .ok (.getfield 31, 3) := by decide +kernel
theorem dX2_worthOf_51 : decode cX2_worthOf 51 = .ok (.iconst 4, 1) := by decide +kernel
theorem dX2_worthOf_52 : decode cX2_worthOf 52 = .ok (.aload_n 1, 1) := by decide +kernel
theorem dX2_worthOf_53 : decode cX2_worthOf 53 = .ok (.getfield 74, 3) := by decide +kernel
theorem dX2_worthOf_56 : decode cX2_worthOf 56 = .ok (.aload_n 1, 1) := by decide +kernel
theorem dX2_worthOf_57 : decode cX2_worthOf 57 = .ok (.getfield 71, 3) := by decide +kernel
theorem dX2_worthOf_60 : decode cX2_worthOf 60 = .ok (.iload_n 2, 1) := by decide +kernel
theorem dX2_worthOf_61 : decode cX2_worthOf 61 = .ok (.iaload, 1) := by decide +kernel
theorem dX2_worthOf_62 : decode cX2_worthOf 62 = .ok (.iaload, 1) := by decide +kernel
theorem dX2_worthOf_63 : decode cX2_worthOf 63 = .ok (.iastore, 1) := by decide +kernel
theorem dX2_worthOf_64 : decode cX2_worthOf 64 = .ok (.aload_n 0, 1) := by decide +kernel
theorem dX2_worthOf_65 : decode cX2_worthOf 65 = .ok (.getfield 31, 3) := by decide +kernel
theorem dX2_worthOf_68 : decode cX2_worthOf 68 = .ok (.iconst 5, 1) := by decide +kernel
theorem dX2_worthOf_69 : decode cX2_worthOf 69 = .ok (.aload_n 1, 1) := by decide +kernel
theorem dX2_worthOf_70 : decode cX2_worthOf 70 = .ok (.getfield 46, 3) := by decide +kernel
theorem dX2_worthOf_73 : decode cX2_worthOf 73 = .ok (.iastore, 1) := by decide +kernel
theorem dX2_worthOf_74 : decode cX2_worthOf 74 = .ok (.aload_n 0, 1) := by decide +kernel
theorem dX2_worthOf_75 : decode cX2_worthOf 75 = .ok (.getfield 12, 3) := by decide +kernel
theorem dX2_worthOf_78 : decode cX2_worthOf 78 = .ok (.aload_n 0, 1) := by decide +kernel
theorem dX2_worthOf_79 : decode cX2_worthOf 79 = .ok (.getfield 31, 3) := by decide +kernel
theorem dX2_worthOf_82 : decode cX2_worthOf 82 = .ok (.invokevirtual 94, 3) := by decide +kernel
theorem dX2_worthOf_85 : decode cX2_worthOf 85 = .ok (.ireturn, 1) := by decide +kernel
theorem dX2_keptIn_0 : decode cX2_keptIn 0 = .ok (.aload_n 0, 1) := by decide +kernel
theorem dX2_keptIn_1 : decode cX2_keptIn 1 = .ok (.getfield 28, 3) := by decide +kernel
theorem dX2_keptIn_4 : decode cX2_keptIn 4 = .ok (.iconst 0, 1) := by decide +kernel
theorem dX2_keptIn_5 : decode cX2_keptIn 5 = .ok (.invokestatic 62, 3) := by decide +kernel
theorem dX2_keptIn_8 : decode cX2_keptIn 8 = .ok (.iconst 0, 1) := by decide +kernel
theorem dX2_keptIn_9 : decode cX2_keptIn 9 = .ok (.istore_n 2, 1) := by decide +kernel
theorem dX2_keptIn_10 : decode cX2_keptIn 10 = .ok (.iload_n 2, 1) := by decide +kernel
theorem dX2_keptIn_11 : decode cX2_keptIn 11 = .ok (.aload_n 1, 1) := by decide +kernel
theorem dX2_keptIn_12 : decode cX2_keptIn 12 = .ok (.getfield 68, 3) := by decide +kernel
theorem dX2_keptIn_15 : decode cX2_keptIn 15 = .ok (.if_icmp .ge 29, 3) := by decide +kernel
theorem dX2_keptIn_18 : decode cX2_keptIn 18 = .ok (.aload_n 0, 1) := by decide +kernel
theorem dX2_keptIn_19 : decode cX2_keptIn 19 = .ok (.getfield 28, 3) := by decide +kernel
theorem dX2_keptIn_22 : decode cX2_keptIn 22 = .ok (.aload_n 1, 1) := by decide +kernel
theorem dX2_keptIn_23 : decode cX2_keptIn 23 = .ok (.getfield 71, 3) := by decide +kernel
theorem dX2_keptIn_26 : decode cX2_keptIn 26 = .ok (.iload_n 2, 1) := by decide +kernel
theorem dX2_keptIn_27 : decode cX2_keptIn 27 = .ok (.iaload, 1) := by decide +kernel
theorem dX2_keptIn_28 : decode cX2_keptIn 28 = .ok (.dup2, 1) := by decide +kernel
theorem dX2_keptIn_29 : decode cX2_keptIn 29 = .ok (.iaload, 1) := by decide +kernel
theorem dX2_keptIn_30 : decode cX2_keptIn 30 = .ok (.aload_n 1, 1) := by decide +kernel
theorem dX2_keptIn_31 : decode cX2_keptIn 31 = .ok (.getfield 84, 3) := by decide +kernel
theorem dX2_keptIn_34 : decode cX2_keptIn 34 = .ok (.iload_n 2, 1) := by decide +kernel
theorem dX2_keptIn_35 : decode cX2_keptIn 35 = .ok (.iaload, 1) := by decide +kernel
theorem dX2_keptIn_36 : decode cX2_keptIn 36 = .ok (.iadd, 1) := by decide +kernel
theorem dX2_keptIn_37 : decode cX2_keptIn 37 = .ok (.iastore, 1) := by decide +kernel
theorem dX2_keptIn_38 : decode cX2_keptIn 38 = .ok (.iinc 2 1, 3) := by decide +kernel
theorem dX2_keptIn_41 : decode cX2_keptIn 41 = .ok (.goto (-31), 3) := by decide +kernel
theorem dX2_keptIn_44 : decode cX2_keptIn 44 = .ok (.iconst 0, 1) := by decide +kernel
theorem dX2_keptIn_45 : decode cX2_keptIn 45 = .ok (.istore_n 2, 1) := by decide +kernel
theorem dX2_keptIn_46 : decode cX2_keptIn 46 = .ok (.iconst 0, 1) := by decide +kernel
theorem dX2_keptIn_47 : decode cX2_keptIn 47 = .ok (.istore_n 3, 1) := by decide +kernel
theorem dX2_keptIn_48 : decode cX2_keptIn 48 = .ok (.iload_n 3, 1) := by decide +kernel
theorem dX2_keptIn_49 : decode cX2_keptIn 49 = .ok (.aload_n 1, 1) := by decide +kernel
theorem dX2_keptIn_50 : decode cX2_keptIn 50 = .ok (.getfield 98, 3) := by decide +kernel
theorem dX2_keptIn_53 : decode cX2_keptIn 53 = .ok (.if_icmp .ge 84, 3) := by decide +kernel
theorem dX2_keptIn_56 : decode cX2_keptIn 56 = .ok (.aload_n 0, 1) := by decide +kernel
theorem dX2_keptIn_57 : decode cX2_keptIn 57 = .ok (.getfield 31, 3) := by decide +kernel
theorem dX2_keptIn_60 : decode cX2_keptIn 60 = .ok (.iconst 4, 1) := by decide +kernel
theorem dX2_keptIn_61 : decode cX2_keptIn 61 = .ok (.aload_n 1, 1) := by decide +kernel
theorem dX2_keptIn_62 : decode cX2_keptIn 62 = .ok (.getfield 74, 3) := by decide +kernel
theorem dX2_keptIn_65 : decode cX2_keptIn 65 = .ok (.iload_n 3, 1) := by decide +kernel
theorem dX2_keptIn_66 : decode cX2_keptIn 66 = .ok (.iaload, 1) := by decide +kernel
theorem dX2_keptIn_67 : decode cX2_keptIn 67 = .ok (.iastore, 1) := by decide +kernel
theorem dX2_keptIn_68 : decode cX2_keptIn 68 = .ok (.aload_n 0, 1) := by decide +kernel
theorem dX2_keptIn_69 : decode cX2_keptIn 69 = .ok (.getfield 31, 3) := by decide +kernel
theorem dX2_keptIn_72 : decode cX2_keptIn 72 = .ok (.iconst 5, 1) := by decide +kernel
theorem dX2_keptIn_73 : decode cX2_keptIn 73 = .ok (.aload_n 1, 1) := by decide +kernel
theorem dX2_keptIn_74 : decode cX2_keptIn 74 = .ok (.getfield 46, 3) := by decide +kernel
theorem dX2_keptIn_77 : decode cX2_keptIn 77 = .ok (.iastore, 1) := by decide +kernel
theorem dX2_keptIn_78 : decode cX2_keptIn 78 = .ok (.aload_n 0, 1) := by decide +kernel
theorem dX2_keptIn_79 : decode cX2_keptIn 79 = .ok (.getfield 31, 3) := by decide +kernel
theorem dX2_keptIn_82 : decode cX2_keptIn 82 = .ok (.bipush 6, 2) := by decide +kernel
theorem dX2_keptIn_84 : decode cX2_keptIn 84 = .ok (.iload_n 3, 1) := by decide +kernel
theorem dX2_keptIn_85 : decode cX2_keptIn 85 = .ok (.iastore, 1) := by decide +kernel
theorem dX2_keptIn_86 : decode cX2_keptIn 86 = .ok (.aload_n 0, 1) := by decide +kernel
theorem dX2_keptIn_87 : decode cX2_keptIn 87 = .ok (.getfield 31, 3) := by decide +kernel
theorem dX2_keptIn_90 : decode cX2_keptIn 90 = .ok (.bipush 7, 2) := by decide +kernel
theorem dX2_keptIn_92 : decode cX2_keptIn 92 = .ok (.aload_n 0, 1) := by decide +kernel
theorem dX2_keptIn_93 : decode cX2_keptIn 93 = .ok (.getfield 28, 3) := by decide +kernel
theorem dX2_keptIn_96 : decode cX2_keptIn 96 = .ok (.iload_n 3, 1) := by decide +kernel
theorem dX2_keptIn_97 : decode cX2_keptIn 97 = .ok (.iaload, 1) := by decide +kernel
theorem dX2_keptIn_98 : decode cX2_keptIn 98 = .ok (.iastore, 1) := by decide +kernel
theorem dX2_keptIn_99 : decode cX2_keptIn 99 = .ok (.aload_n 0, 1) := by decide +kernel
theorem dX2_keptIn_100 : decode cX2_keptIn 100 = .ok (.getfield 31, 3) := by decide +kernel
theorem dX2_keptIn_103 : decode cX2_keptIn 103 = .ok (.bipush 8, 2) := by decide +kernel
theorem dX2_keptIn_105 : decode cX2_keptIn 105 = .ok (.aload_n 1, 1) := by decide +kernel
theorem dX2_keptIn_106 : decode cX2_keptIn 106 = .ok (.iload_n 3, 1) := by decide +kernel
theorem dX2_keptIn_107 : decode cX2_keptIn 107 = .ok (.invokevirtual 101, 3) := by decide +kernel
theorem dX2_keptIn_110 : decode cX2_keptIn 110 = .ok (.iastore, 1) := by decide +kernel
theorem dX2_keptIn_111 : decode cX2_keptIn 111 = .ok (.aload_n 0, 1) := by decide +kernel
theorem dX2_keptIn_112 : decode cX2_keptIn 112 = .ok (.getfield 18, 3) := by decide +kernel
theorem dX2_keptIn_115 : decode cX2_keptIn 115 = .ok (.aload_n 0, 1) := by decide +kernel
theorem dX2_keptIn_116 : decode cX2_keptIn 116 = .ok (.getfield 31, 3) := by decide +kernel
theorem dX2_keptIn_119 : decode cX2_keptIn 119 = .ok (.invokevirtual 94, 3) := by decide +kernel
theorem dX2_keptIn_122 : decode cX2_keptIn 122 = .ok (.ifCond .le 9, 3) := by decide +kernel
theorem dX2_keptIn_125 : decode cX2_keptIn 125 = .ok (.iload_n 2, 1) := by decide +kernel
theorem dX2_keptIn_126 : decode cX2_keptIn 126 = .ok (.iconst 1, 1) := by decide +kernel
theorem dX2_keptIn_127 : decode cX2_keptIn 127 = .ok (.iload_n 3, 1) := by decide +kernel
theorem dX2_keptIn_128 : decode cX2_keptIn 128 = .ok (.ishl, 1) := by decide +kernel
theorem dX2_keptIn_129 : decode cX2_keptIn 129 = .ok (.ior, 1) := by decide +kernel
theorem dX2_keptIn_130 : decode cX2_keptIn 130 = .ok (.istore_n 2, 1) := by decide +kernel
theorem dX2_keptIn_131 : decode cX2_keptIn 131 = .ok (.iinc 3 1, 3) := by decide +kernel
theorem dX2_keptIn_134 : decode cX2_keptIn 134 = .ok (.goto (-86), 3) := by decide +kernel
theorem dX2_keptIn_137 : decode cX2_keptIn 137 = .ok (.iload_n 2, 1) := by decide +kernel
theorem dX2_keptIn_138 : decode cX2_keptIn 138 = .ok (.ireturn, 1) := by decide +kernel
theorem dX2_comeUp_0 : decode cX2_comeUp 0 = .ok (.iconst 0, 1) := by decide +kernel
theorem dX2_comeUp_1 : decode cX2_comeUp 1 = .ok (.istore_n 2, 1) := by decide +kernel
theorem dX2_comeUp_2 : decode cX2_comeUp 2 = .ok (.iload_n 2, 1) := by decide +kernel
theorem dX2_comeUp_3 : decode cX2_comeUp 3 = .ok (.aload_n 1, 1) := by decide +kernel
theorem dX2_comeUp_4 : decode cX2_comeUp 4 = .ok (.getfield 68, 3) := by decide +kernel
theorem dX2_comeUp_7 : decode cX2_comeUp 7 = .ok (.if_icmp .ge 51, 3) := by decide +kernel
theorem dX2_comeUp_10 : decode cX2_comeUp 10 = .ok (.aload_n 0, 1) := by decide +kernel
theorem dX2_comeUp_11 : decode cX2_comeUp 11 = .ok (.getfield 21, 3) := by decide +kernel
theorem dX2_comeUp_14 : decode cX2_comeUp 14 = .ok (.aload_n 1, 1) := by decide +kernel
theorem dX2_comeUp_15 : decode cX2_comeUp 15 = .ok (.getfield 71, 3) := by decide +kernel
theorem dX2_comeUp_18 : decode cX2_comeUp 18 = .ok (.iload_n 2, 1) := by decide +kernel
theorem dX2_comeUp_19 : decode cX2_comeUp 19 = .ok (.iaload, 1) := by decide +kernel
theorem dX2_comeUp_20 : decode cX2_comeUp 20 = .ok (.iaload, 1) := by decide +kernel
theorem dX2_comeUp_21 : decode cX2_comeUp 21 = .ok (.istore_n 3, 1) := by decide +kernel
theorem dX2_comeUp_22 : decode cX2_comeUp 22 = .ok (.iload_n 3, 1) := by decide +kernel
theorem dX2_comeUp_23 : decode cX2_comeUp 23 = .ok (.iconst (-1), 1) := by decide +kernel
theorem dX2_comeUp_24 : decode cX2_comeUp 24 = .ok (.if_icmp .eq 28, 3) := by decide +kernel
theorem dX2_comeUp_27 : decode cX2_comeUp 27 = .ok (.aload_n 1, 1) := by decide +kernel
theorem dX2_comeUp_28 : decode cX2_comeUp 28 = .ok (.getfield 81, 3) := by decide +kernel
theorem dX2_comeUp_31 : decode cX2_comeUp 31 = .ok (.iload_n 2, 1) := by decide +kernel
theorem dX2_comeUp_32 : decode cX2_comeUp 32 = .ok (.iaload, 1) := by decide +kernel
theorem dX2_comeUp_33 : decode cX2_comeUp 33 = .ok (.aload_n 1, 1) := by decide +kernel
theorem dX2_comeUp_34 : decode cX2_comeUp 34 = .ok (.getfield 81, 3) := by decide +kernel
theorem dX2_comeUp_37 : decode cX2_comeUp 37 = .ok (.iload_n 3, 1) := by decide +kernel
theorem dX2_comeUp_38 : decode cX2_comeUp 38 = .ok (.iaload, 1) := by decide +kernel
theorem dX2_comeUp_39 : decode cX2_comeUp 39 = .ok (.if_icmp .le 13, 3) := by decide +kernel
theorem dX2_comeUp_42 : decode cX2_comeUp 42 = .ok (.aload_n 1, 1) := by decide +kernel
theorem dX2_comeUp_43 : decode cX2_comeUp 43 = .ok (.getfield 81, 3) := by decide +kernel
theorem dX2_comeUp_46 : decode cX2_comeUp 46 = .ok (.iload_n 2, 1) := by decide +kernel
theorem dX2_comeUp_47 : decode cX2_comeUp 47 = .ok (.dup2, 1) := by decide +kernel
theorem dX2_comeUp_48 : decode cX2_comeUp 48 = .ok (.iaload, 1) := by decide +kernel
theorem dX2_comeUp_49 : decode cX2_comeUp 49 = .ok (.iconst 1, 1) := by decide +kernel
theorem dX2_comeUp_50 : decode cX2_comeUp 50 = .ok (.isub, 1) := by decide +kernel
theorem dX2_comeUp_51 : decode cX2_comeUp 51 = .ok (.iastore, 1) := by decide +kernel
theorem dX2_comeUp_52 : decode cX2_comeUp 52 = .ok (.iinc 2 1, 3) := by decide +kernel
theorem dX2_comeUp_55 : decode cX2_comeUp 55 = .ok (.goto (-53), 3) := by decide +kernel
theorem dX2_comeUp_58 : decode cX2_comeUp 58 = .ok (.return_, 1) := by decide +kernel
theorem dX2_goOut_0 : decode cX2_goOut 0 = .ok (.aload_n 1, 1) := by decide +kernel
theorem dX2_goOut_1 : decode cX2_goOut 1 = .ok (.getfield 98, 3) := by decide +kernel
theorem dX2_goOut_4 : decode cX2_goOut 4 = .ok (.istore_n 2, 1) := by decide +kernel
theorem dX2_goOut_5 : decode cX2_goOut 5 = .ok (.iconst (-1), 1) := by decide +kernel
theorem dX2_goOut_6 : decode cX2_goOut 6 = .ok (.istore_n 3, 1) := by decide +kernel
theorem dX2_goOut_7 : decode cX2_goOut 7 = .ok (.iconst 0, 1) := by decide +kernel
theorem dX2_goOut_8 : decode cX2_goOut 8 = .ok (.istore 4, 2) := by decide +kernel
theorem dX2_goOut_10 : decode cX2_goOut 10 = .ok (.iconst 0, 1) := by decide +kernel
theorem dX2_goOut_11 : decode cX2_goOut 11 = .ok (.istore 5, 2) := by decide +kernel
theorem dX2_goOut_13 : decode cX2_goOut 13 = .ok (.iload 5, 2) := by decide +kernel
theorem dX2_goOut_15 : decode cX2_goOut 15 = .ok (.iload_n 2, 1) := by decide +kernel
theorem dX2_goOut_16 : decode cX2_goOut 16 = .ok (.if_icmp .ge 97, 3) := by decide +kernel
theorem dX2_goOut_19 : decode cX2_goOut 19 = .ok (.aload_n 0, 1) := by decide +kernel
theorem dX2_goOut_20 : decode cX2_goOut 20 = .ok (.getfield 21, 3) := by decide +kernel
theorem dX2_goOut_23 : decode cX2_goOut 23 = .ok (.iload 5, 2) := by decide +kernel
theorem dX2_goOut_25 : decode cX2_goOut 25 = .ok (.iaload, 1) := by decide +kernel
theorem dX2_goOut_26 : decode cX2_goOut 26 = .ok (.istore 6, 2) := by decide +kernel
theorem dX2_goOut_28 : decode cX2_goOut 28 = .ok (.iload 6, 2) := by decide +kernel
theorem dX2_goOut_30 : decode cX2_goOut 30 = .ok (.iconst (-1), 1) := by decide +kernel
theorem dX2_goOut_31 : decode cX2_goOut 31 = .ok (.if_icmp .eq 76, 3) := by decide +kernel
theorem dX2_goOut_34 : decode cX2_goOut 34 = .ok (.iload_n 3, 1) := by decide +kernel
theorem dX2_goOut_35 : decode cX2_goOut 35 = .ok (.iconst (-1), 1) := by decide +kernel
theorem dX2_goOut_36 : decode cX2_goOut 36 = .ok (.if_icmp .ne 8, 3) := by decide +kernel
theorem dX2_goOut_39 : decode cX2_goOut 39 = .ok (.aload_n 1, 1) := by decide +kernel
theorem dX2_goOut_40 : decode cX2_goOut 40 = .ok (.invokevirtual 104, 3) := by decide +kernel
theorem dX2_goOut_43 : decode cX2_goOut 43 = .ok (.istore_n 3, 1) := by decide +kernel
theorem dX2_goOut_44 : decode cX2_goOut 44 = .ok (.aload_n 1, 1) := by decide +kernel
theorem dX2_goOut_45 : decode cX2_goOut 45 = .ok (.getfield 74, 3) := by decide +kernel
theorem dX2_goOut_48 : decode cX2_goOut 48 = .ok (.iload 5, 2) := by decide +kernel
theorem dX2_goOut_50 : decode cX2_goOut 50 = .ok (.dup2, 1) := by decide +kernel
theorem dX2_goOut_51 : decode cX2_goOut 51 = .ok (.iaload, 1) := by decide +kernel
theorem dX2_goOut_52 : decode cX2_goOut 52 = .ok (.iconst 1, 1) := by decide +kernel
theorem dX2_goOut_53 : decode cX2_goOut 53 = .ok (.isub, 1) := by decide +kernel
theorem dX2_goOut_54 : decode cX2_goOut 54 = .ok (.iastore, 1) := by decide +kernel
theorem dX2_goOut_55 : decode cX2_goOut 55 = .ok (.aload_n 1, 1) := by decide +kernel
theorem dX2_goOut_56 : decode cX2_goOut 56 = .ok (.iload 6, 2) := by decide +kernel
theorem dX2_goOut_58 : decode cX2_goOut 58 = .ok (.iload_n 3, 1) := by decide +kernel
theorem dX2_goOut_59 : decode cX2_goOut 59 = .ok (.invokevirtual 108, 3) := by decide +kernel
theorem dX2_goOut_62 : decode cX2_goOut 62 = .ok (.aload_n 1, 1) := by decide +kernel
theorem dX2_goOut_63 : decode cX2_goOut 63 = .ok (.getfield 91, 3) := by decide +kernel
theorem dX2_goOut_66 : decode cX2_goOut 66 = .ok (.iload 6, 2) := by decide +kernel
theorem dX2_goOut_68 : decode cX2_goOut 68 = .ok (.dup2, 1) := by decide +kernel
theorem dX2_goOut_69 : decode cX2_goOut 69 = .ok (.iaload, 1) := by decide +kernel
theorem dX2_goOut_70 : decode cX2_goOut 70 = .ok (.iconst 1, 1) := by decide +kernel
theorem dX2_goOut_71 : decode cX2_goOut 71 = .ok (.iadd, 1) := by decide +kernel
theorem dX2_goOut_72 : decode cX2_goOut 72 = .ok (.iastore, 1) := by decide +kernel
theorem dX2_goOut_73 : decode cX2_goOut 73 = .ok (.aload_n 1, 1) := by decide +kernel
theorem dX2_goOut_74 : decode cX2_goOut 74 = .ok (.getfield 112, 3) := by decide +kernel
theorem dX2_goOut_77 : decode cX2_goOut 77 = .ok (.iload 6, 2) := by decide +kernel
theorem dX2_goOut_79 : decode cX2_goOut 79 = .ok (.aload_n 1, 1) := by decide +kernel
theorem dX2_goOut_80 : decode cX2_goOut 80 = .ok (.getfield 46, 3) := by decide +kernel
theorem dX2_goOut_83 : decode cX2_goOut 83 = .ok (.iconst 1, 1) := by decide +kernel
theorem dX2_goOut_84 : decode cX2_goOut 84 = .ok (.iadd, 1) := by decide +kernel
theorem dX2_goOut_85 : decode cX2_goOut 85 = .ok (.iastore, 1) := by decide +kernel
theorem dX2_goOut_86 : decode cX2_goOut 86 = .ok (.aload_n 1, 1) := by decide +kernel
theorem dX2_goOut_87 : decode cX2_goOut 87 = .ok (.getfield 115, 3) := by decide +kernel
theorem dX2_goOut_90 : decode cX2_goOut 90 = .ok (.iload_n 3, 1) := by decide +kernel
theorem dX2_goOut_91 : decode cX2_goOut 91 = .ok (.aload_n 1, 1) := by decide +kernel
theorem dX2_goOut_92 : decode cX2_goOut 92 = .ok (.getfield 46, 3) := by decide +kernel
theorem dX2_goOut_95 : decode cX2_goOut 95 = .ok (.iconst 1, 1) := by decide +kernel
theorem dX2_goOut_96 : decode cX2_goOut 96 = .ok (.iadd, 1) := by decide +kernel
theorem dX2_goOut_97 : decode cX2_goOut 97 = .ok (.iastore, 1) := by decide +kernel
theorem dX2_goOut_98 : decode cX2_goOut 98 = .ok (.iload 4, 2) := by decide +kernel
theorem dX2_goOut_100 : decode cX2_goOut 100 = .ok (.iconst 1, 1) := by decide +kernel
theorem dX2_goOut_101 : decode cX2_goOut 101 = .ok (.iload 6, 2) := by decide +kernel
theorem dX2_goOut_103 : decode cX2_goOut 103 = .ok (.ishl, 1) := by decide +kernel
theorem dX2_goOut_104 : decode cX2_goOut 104 = .ok (.ior, 1) := by decide +kernel
theorem dX2_goOut_105 : decode cX2_goOut 105 = .ok (.istore 4, 2) := by decide +kernel
theorem dX2_goOut_107 : decode cX2_goOut 107 = .ok (.iinc 5 1, 3) := by decide +kernel
theorem dX2_goOut_110 : decode cX2_goOut 110 = .ok (.goto (-97), 3) := by decide +kernel
theorem dX2_goOut_113 : decode cX2_goOut 113 = .ok (.iload 4, 2) := by decide +kernel
theorem dX2_goOut_115 : decode cX2_goOut 115 = .ok (.ireturn, 1) := by decide +kernel
theorem dX3_init_0 : decode cX3_init 0 = .ok (.aload_n 0, 1) := by decide +kernel
theorem dX3_init_1 : decode cX3_init 1 = .ok (.invokespecial 3, 3) := by decide +kernel
theorem dX3_init_4 : decode cX3_init 4 = .ok (.aload_n 0, 1) := by decide +kernel
theorem dX3_init_5 : decode cX3_init 5 = .ok (.iconst 0, 1) := by decide +kernel
theorem dX3_init_6 : decode cX3_init 6 = .ok (.putfield 9, 3) := by decide +kernel
theorem dX3_init_9 : decode cX3_init 9 = .ok (.aload_n 0, 1) := by decide +kernel
theorem dX3_init_10 : decode cX3_init 10 = .ok (.bipush 12, 2) := by decide +kernel
theorem dX3_init_12 : decode cX3_init 12 = .ok (.newarray .int, 2) := by decide +kernel
theorem dX3_init_14 : decode cX3_init 14 = .ok (.putfield 15, 3) := by decide +kernel
theorem dX3_init_17 : decode cX3_init 17 = .ok (.aload_n 0, 1) := by decide +kernel
theorem dX3_init_18 : decode cX3_init 18 = .ok (.bipush 12, 2) := by decide +kernel
theorem dX3_init_20 : decode cX3_init 20 = .ok (.newarray .int, 2) := by decide +kernel
theorem dX3_init_22 : decode cX3_init 22 = .ok (.putfield 19, 3) := by decide +kernel
theorem dX3_init_25 : decode cX3_init 25 = .ok (.return_, 1) := by decide +kernel
theorem dX3_copyFrom_0 : decode cX3_copyFrom 0 = .ok (.aload_n 0, 1) := by decide +kernel
theorem dX3_copyFrom_1 : decode cX3_copyFrom 1 = .ok (.aload_n 1, 1) := by decide +kernel
theorem dX3_copyFrom_2 : decode cX3_copyFrom 2 = .ok (.getfield 9, 3) := by decide +kernel
theorem dX3_copyFrom_5 : decode cX3_copyFrom 5 = .ok (.putfield 9, 3) := by decide +kernel
theorem dX3_copyFrom_8 : decode cX3_copyFrom 8 = .ok (.aload_n 1, 1) := by decide +kernel
theorem dX3_copyFrom_9 : decode cX3_copyFrom 9 = .ok (.getfield 15, 3) := by decide +kernel
theorem dX3_copyFrom_12 : decode cX3_copyFrom 12 = .ok (.iconst 0, 1) := by decide +kernel
theorem dX3_copyFrom_13 : decode cX3_copyFrom 13 = .ok (.aload_n 0, 1) := by decide +kernel
theorem dX3_copyFrom_14 : decode cX3_copyFrom 14 = .ok (.getfield 15, 3) := by decide +kernel
theorem dX3_copyFrom_17 : decode cX3_copyFrom 17 = .ok (.iconst 0, 1) := by decide +kernel
theorem dX3_copyFrom_18 : decode cX3_copyFrom 18 = .ok (.bipush 12, 2) := by decide +kernel
theorem dX3_copyFrom_20 : decode cX3_copyFrom 20 = .ok (.invokestatic 22, 3) := by decide +kernel
theorem dX3_copyFrom_23 : decode cX3_copyFrom 23 = .ok (.aload_n 1, 1) := by decide +kernel
theorem dX3_copyFrom_24 : decode cX3_copyFrom 24 = .ok (.getfield 19, 3) := by decide +kernel
theorem dX3_copyFrom_27 : decode cX3_copyFrom 27 = .ok (.iconst 0, 1) := by decide +kernel
theorem dX3_copyFrom_28 : decode cX3_copyFrom 28 = .ok (.aload_n 0, 1) := by decide +kernel
theorem dX3_copyFrom_29 : decode cX3_copyFrom 29 = .ok (.getfield 19, 3) := by decide +kernel
theorem dX3_copyFrom_32 : decode cX3_copyFrom 32 = .ok (.iconst 0, 1) := by decide +kernel
theorem dX3_copyFrom_33 : decode cX3_copyFrom 33 = .ok (.bipush 12, 2) := by decide +kernel
theorem dX3_copyFrom_35 : decode cX3_copyFrom 35 = .ok (.invokestatic 22, 3) := by decide +kernel
theorem dX3_copyFrom_38 : decode cX3_copyFrom 38 = .ok (.return_, 1) := by decide +kernel
theorem dX3_add_0 : decode cX3_add 0 = .ok (.aload_n 0, 1) := by decide +kernel
theorem dX3_add_1 : decode cX3_add 1 = .ok (.getfield 9, 3) := by decide +kernel
theorem dX3_add_4 : decode cX3_add 4 = .ok (.bipush 12, 2) := by decide +kernel
theorem dX3_add_6 : decode cX3_add 6 = .ok (.if_icmp .ge 33, 3) := by decide +kernel
theorem dX3_add_9 : decode cX3_add 9 = .ok (.aload_n 0, 1) := by decide +kernel
theorem dX3_add_10 : decode cX3_add 10 = .ok (.getfield 15, 3) := by decide +kernel
theorem dX3_add_13 : decode cX3_add 13 = .ok (.aload_n 0, 1) := by decide +kernel
theorem dX3_add_14 : decode cX3_add 14 = .ok (.getfield 9, 3) := by decide +kernel
theorem dX3_add_17 : decode cX3_add 17 = .ok (.iload_n 1, 1) := by decide +kernel
theorem dX3_add_18 : decode cX3_add 18 = .ok (.iastore, 1) := by decide +kernel
theorem dX3_add_19 : decode cX3_add 19 = .ok (.aload_n 0, 1) := by decide +kernel
theorem dX3_add_20 : decode cX3_add 20 = .ok (.getfield 19, 3) := by decide +kernel
theorem dX3_add_23 : decode cX3_add 23 = .ok (.aload_n 0, 1) := by decide +kernel
theorem dX3_add_24 : decode cX3_add 24 = .ok (.getfield 9, 3) := by decide +kernel
theorem dX3_add_27 : decode cX3_add 27 = .ok (.iload_n 2, 1) := by decide +kernel
theorem dX3_add_28 : decode cX3_add 28 = .ok (.iastore, 1) := by decide +kernel
theorem dX3_add_29 : decode cX3_add 29 = .ok (.aload_n 0, 1) := by decide +kernel
theorem dX3_add_30 : decode cX3_add 30 = .ok (.dup, 1) := by decide +kernel
theorem dX3_add_31 : decode cX3_add 31 = .ok (.getfield 9, 3) := by decide +kernel
theorem dX3_add_34 : decode cX3_add 34 = .ok (.iconst 1, 1) := by decide +kernel
theorem dX3_add_35 : decode cX3_add 35 = .ok (.iadd, 1) := by decide +kernel
theorem dX3_add_36 : decode cX3_add 36 = .ok (.putfield 9, 3) := by decide +kernel
theorem dX3_add_39 : decode cX3_add 39 = .ok (.return_, 1) := by decide +kernel
theorem dX3_of_0 : decode cX3_of 0 = .ok (.iconst 0, 1) := by decide +kernel
theorem dX3_of_1 : decode cX3_of 1 = .ok (.istore_n 2, 1) := by decide +kernel
theorem dX3_of_2 : decode cX3_of 2 = .ok (.iconst 0, 1) := by decide +kernel
theorem dX3_of_3 : decode cX3_of 3 = .ok (.istore_n 3, 1) := by decide +kernel
theorem dX3_of_4 : decode cX3_of 4 = .ok (.iload_n 3, 1) := by decide +kernel
theorem dX3_of_5 : decode cX3_of 5 = .ok (.aload_n 0, 1) := by decide +kernel
theorem dX3_of_6 : decode cX3_of 6 = .ok (.getfield 9, 3) := by decide +kernel
theorem dX3_of_9 : decode cX3_of 9 = .ok (.if_icmp .ge 54, 3) := by decide +kernel
theorem dX3_of_12 : decode cX3_of 12 = .ok (.aload_n 0, 1) := by decide +kernel
theorem dX3_of_13 : decode cX3_of 13 = .ok (.getfield 15, 3) := by decide +kernel
theorem dX3_of_16 : decode cX3_of 16 = .ok (.iload_n 3, 1) := by decide +kernel
theorem dX3_of_17 : decode cX3_of 17 = .ok (.iaload, 1) := by decide +kernel
theorem dX3_of_18 : decode cX3_of 18 = .ok (.iload_n 1, 1) := by decide +kernel
theorem dX3_of_19 : decode cX3_of 19 = .ok (.if_icmp .ne 17, 3) := by decide +kernel
theorem dX3_of_22 : decode cX3_of 22 = .ok (.iload_n 2, 1) := by decide +kernel
theorem dX3_of_23 : decode cX3_of 23 = .ok (.iconst 1, 1) := by decide +kernel
theorem dX3_of_24 : decode cX3_of 24 = .ok (.aload_n 0, 1) := by decide +kernel
theorem dX3_of_25 : decode cX3_of 25 = .ok (.getfield 19, 3) := by decide +kernel
theorem dX3_of_28 : decode cX3_of 28 = .ok (.iload_n 3, 1) := by decide +kernel
theorem dX3_of_29 : decode cX3_of 29 = .ok (.iaload, 1) := by decide +kernel
theorem dX3_of_30 : decode cX3_of 30 = .ok (.ishl, 1) := by decide +kernel
theorem dX3_of_31 : decode cX3_of 31 = .ok (.ior, 1) := by decide +kernel
theorem dX3_of_32 : decode cX3_of 32 = .ok (.istore_n 2, 1) := by decide +kernel
theorem dX3_of_33 : decode cX3_of 33 = .ok (.goto 24, 3) := by decide +kernel
theorem dX3_of_36 : decode cX3_of 36 = .ok (.aload_n 0, 1) := by decide +kernel
theorem dX3_of_37 : decode cX3_of 37 = .ok (.getfield 19, 3) := by decide +kernel
theorem dX3_of_40 : decode cX3_of 40 = .ok (.iload_n 3, 1) := by decide +kernel
theorem dX3_of_41 : decode cX3_of 41 = .ok (.iaload, 1) := by decide +kernel
theorem dX3_of_42 : decode cX3_of 42 = .ok (.iload_n 1, 1) := by decide +kernel
theorem dX3_of_43 : decode cX3_of 43 = .ok (.if_icmp .ne 14, 3) := by decide +kernel
theorem dX3_of_46 : decode cX3_of 46 = .ok (.iload_n 2, 1) := by decide +kernel
theorem dX3_of_47 : decode cX3_of 47 = .ok (.iconst 1, 1) := by decide +kernel
theorem dX3_of_48 : decode cX3_of 48 = .ok (.aload_n 0, 1) := by decide +kernel
theorem dX3_of_49 : decode cX3_of 49 = .ok (.getfield 15, 3) := by decide +kernel
theorem dX3_of_52 : decode cX3_of 52 = .ok (.iload_n 3, 1) := by decide +kernel
theorem dX3_of_53 : decode cX3_of 53 = .ok (.iaload, 1) := by decide +kernel
theorem dX3_of_54 : decode cX3_of 54 = .ok (.ishl, 1) := by decide +kernel
theorem dX3_of_55 : decode cX3_of 55 = .ok (.ior, 1) := by decide +kernel
theorem dX3_of_56 : decode cX3_of 56 = .ok (.istore_n 2, 1) := by decide +kernel
theorem dX3_of_57 : decode cX3_of 57 = .ok (.iinc 3 1, 3) := by decide +kernel
theorem dX3_of_60 : decode cX3_of 60 = .ok (.goto (-56), 3) := by decide +kernel
theorem dX3_of_63 : decode cX3_of 63 = .ok (.iload_n 2, 1) := by decide +kernel
theorem dX3_of_64 : decode cX3_of 64 = .ok (.ireturn, 1) := by decide +kernel
theorem dX3_inOneHouse_0 : decode cX3_inOneHouse 0 = .ok (.iconst 0, 1) := by decide +kernel
theorem dX3_inOneHouse_1 : decode cX3_inOneHouse 1 = .ok (.istore_n 2, 1) := by decide +kernel
theorem dX3_inOneHouse_2 : decode cX3_inOneHouse 2 = .ok (.iconst 0, 1) := by decide +kernel
theorem dX3_inOneHouse_3 : decode cX3_inOneHouse 3 = .ok (.istore_n 3, 1) := by decide +kernel
theorem dX3_inOneHouse_4 : decode cX3_inOneHouse 4 = .ok (.iload_n 3, 1) := by decide +kernel
theorem dX3_inOneHouse_5 : decode cX3_inOneHouse 5 = .ok (.aload_n 0, 1) := by decide +kernel
theorem dX3_inOneHouse_6 : decode cX3_inOneHouse 6 = .ok (.getfield 9, 3) := by decide +kernel
theorem dX3_inOneHouse_9 : decode cX3_inOneHouse 9 = .ok (.if_icmp .ge 31, 3) := by decide +kernel
theorem dX3_inOneHouse_12 : decode cX3_inOneHouse 12 = .ok (.aload_n 1, 1) := by decide +kernel
theorem dX3_inOneHouse_13 : decode cX3_inOneHouse 13 = .ok (.aload_n 0, 1) := by decide +kernel
theorem dX3_inOneHouse_14 : decode cX3_inOneHouse 14 = .ok (.getfield 15, 3) := by decide +kernel
theorem dX3_inOneHouse_17 : decode cX3_inOneHouse 17 = .ok (.iload_n 3, 1) := by decide +kernel
theorem dX3_inOneHouse_18 : decode cX3_inOneHouse 18 = .ok (.iaload, 1) := by decide +kernel
theorem dX3_inOneHouse_19 : decode cX3_inOneHouse 19 = .ok (.aload_n 0, 1) := by decide +kernel
theorem dX3_inOneHouse_20 : decode cX3_inOneHouse 20 = .ok (.getfield 19, 3) := by decide +kernel
theorem dX3_inOneHouse_23 : decode cX3_inOneHouse 23 = .ok (.iload_n 3, 1) := by decide +kernel
theorem dX3_inOneHouse_24 : decode cX3_inOneHouse 24 = .ok (.iaload, 1) := by decide +kernel
theorem dX3_inOneHouse_25 : decode cX3_inOneHouse 25 = .ok (.invokevirtual 28, 3) := by decide +kernel
theorem dX3_inOneHouse_28 : decode cX3_inOneHouse 28 = .ok (.ifCond .eq 6, 3) := by decide +kernel
theorem dX3_inOneHouse_31 : decode cX3_inOneHouse 31 = .ok (.iinc 2 1, 3) := by decide +kernel
theorem dX3_inOneHouse_34 : decode cX3_inOneHouse 34 = .ok (.iinc 3 1, 3) := by decide +kernel
theorem dX3_inOneHouse_37 : decode cX3_inOneHouse 37 = .ok (.goto (-33), 3) := by decide +kernel
theorem dX3_inOneHouse_40 : decode cX3_inOneHouse 40 = .ok (.iload_n 2, 1) := by decide +kernel
theorem dX3_inOneHouse_41 : decode cX3_inOneHouse 41 = .ok (.ireturn, 1) := by decide +kernel
theorem dX3_toTell_0 : decode cX3_toTell 0 = .ok (.iconst 1, 1) := by decide +kernel
theorem dX3_toTell_1 : decode cX3_toTell 1 = .ok (.iload_n 1, 1) := by decide +kernel
theorem dX3_toTell_2 : decode cX3_toTell 2 = .ok (.ishl, 1) := by decide +kernel
theorem dX3_toTell_3 : decode cX3_toTell 3 = .ok (.iconst 1, 1) := by decide +kernel
theorem dX3_toTell_4 : decode cX3_toTell 4 = .ok (.isub, 1) := by decide +kernel
theorem dX3_toTell_5 : decode cX3_toTell 5 = .ok (.istore_n 2, 1) := by decide +kernel
theorem dX3_toTell_6 : decode cX3_toTell 6 = .ok (.iload_n 1, 1) := by decide +kernel
theorem dX3_toTell_7 : decode cX3_toTell 7 = .ok (.istore_n 3, 1) := by decide +kernel
theorem dX3_toTell_8 : decode cX3_toTell 8 = .ok (.iconst 0, 1) := by decide +kernel
theorem dX3_toTell_9 : decode cX3_toTell 9 = .ok (.istore 4, 2) := by decide +kernel
theorem dX3_toTell_11 : decode cX3_toTell 11 = .ok (.iload 4, 2) := by decide +kernel
theorem dX3_toTell_13 : decode cX3_toTell 13 = .ok (.iconst 1, 1) := by decide +kernel
theorem dX3_toTell_14 : decode cX3_toTell 14 = .ok (.iload_n 1, 1) := by decide +kernel
theorem dX3_toTell_15 : decode cX3_toTell 15 = .ok (.ishl, 1) := by decide +kernel
theorem dX3_toTell_16 : decode cX3_toTell 16 = .ok (.if_icmp .ge 36, 3) := by decide +kernel
theorem dX3_toTell_19 : decode cX3_toTell 19 = .ok (.iload 4, 2) := by decide +kernel
theorem dX3_toTell_21 : decode cX3_toTell 21 = .ok (.invokestatic 34, 3) := by decide +kernel
theorem dX3_toTell_24 : decode cX3_toTell 24 = .ok (.iload_n 3, 1) := by decide +kernel
theorem dX3_toTell_25 : decode cX3_toTell 25 = .ok (.if_icmp .ge 21, 3) := by decide +kernel
theorem dX3_toTell_28 : decode cX3_toTell 28 = .ok (.aload_n 0, 1) := by decide +kernel
theorem dX3_toTell_29 : decode cX3_toTell 29 = .ok (.iload 4, 2) := by decide +kernel
theorem dX3_toTell_31 : decode cX3_toTell 31 = .ok (.invokevirtual 40, 3) := by decide +kernel
theorem dX3_toTell_34 : decode cX3_toTell 34 = .ok (.ifCond .eq 12, 3) := by decide +kernel
theorem dX3_toTell_37 : decode cX3_toTell 37 = .ok (.iload 4, 2) := by decide +kernel
theorem dX3_toTell_39 : decode cX3_toTell 39 = .ok (.istore_n 2, 1) := by decide +kernel
theorem dX3_toTell_40 : decode cX3_toTell 40 = .ok (.iload 4, 2) := by decide +kernel
theorem dX3_toTell_42 : decode cX3_toTell 42 = .ok (.invokestatic 34, 3) := by decide +kernel
theorem dX3_toTell_45 : decode cX3_toTell 45 = .ok (.istore_n 3, 1) := by decide +kernel
theorem dX3_toTell_46 : decode cX3_toTell 46 = .ok (.iinc 4 1, 3) := by decide +kernel
theorem dX3_toTell_49 : decode cX3_toTell 49 = .ok (.goto (-38), 3) := by decide +kernel
theorem dX3_toTell_52 : decode cX3_toTell 52 = .ok (.iload_n 2, 1) := by decide +kernel
theorem dX3_toTell_53 : decode cX3_toTell 53 = .ok (.ireturn, 1) := by decide +kernel
theorem dX3_eachHasOneOf_0 : decode cX3_eachHasOneOf 0 = .ok (.iconst 0, 1) := by decide +kernel
theorem dX3_eachHasOneOf_1 : decode cX3_eachHasOneOf 1 = .ok (.istore_n 2, 1) := by decide +kernel
theorem dX3_eachHasOneOf_2 : decode cX3_eachHasOneOf 2 = .ok (.iload_n 2, 1) := by decide +kernel
theorem dX3_eachHasOneOf_3 : decode cX3_eachHasOneOf 3 = .ok (.aload_n 0, 1) := by decide +kernel
theorem dX3_eachHasOneOf_4 : decode cX3_eachHasOneOf 4 = .ok (.getfield 9, 3) := by decide +kernel
theorem dX3_eachHasOneOf_7 : decode cX3_eachHasOneOf 7 = .ok (.if_icmp .ge 37, 3) := by decide +kernel
theorem dX3_eachHasOneOf_10 : decode cX3_eachHasOneOf 10 = .ok (.iload_n 1, 1) := by decide +kernel
theorem dX3_eachHasOneOf_11 : decode cX3_eachHasOneOf 11 = .ok (.aload_n 0, 1) := by decide +kernel
theorem dX3_eachHasOneOf_12 : decode cX3_eachHasOneOf 12 = .ok (.getfield 15, 3) := by decide +kernel
theorem dX3_eachHasOneOf_15 : decode cX3_eachHasOneOf 15 = .ok (.iload_n 2, 1) := by decide +kernel
theorem dX3_eachHasOneOf_16 : decode cX3_eachHasOneOf 16 = .ok (.iaload, 1) := by decide +kernel
theorem dX3_eachHasOneOf_17 : decode cX3_eachHasOneOf 17 = .ok (.ishr, 1) := by decide +kernel
theorem dX3_eachHasOneOf_18 : decode cX3_eachHasOneOf 18 = .ok (.iconst 1, 1) := by decide +kernel
theorem dX3_eachHasOneOf_19 : decode cX3_eachHasOneOf 19 = .ok (.iand, 1) := by decide +kernel
theorem dX3_eachHasOneOf_20 : decode cX3_eachHasOneOf 20 = .ok (.ifCond .ne 18, 3) := by decide +kernel
theorem dX3_eachHasOneOf_23 : decode cX3_eachHasOneOf 23 = .ok (.iload_n 1, 1) := by decide +kernel
theorem dX3_eachHasOneOf_24 : decode cX3_eachHasOneOf 24 = .ok (.aload_n 0, 1) := by decide +kernel
theorem dX3_eachHasOneOf_25 : decode cX3_eachHasOneOf 25 = .ok (.getfield 19, 3) := by decide +kernel
theorem dX3_eachHasOneOf_28 : decode cX3_eachHasOneOf 28 = .ok (.iload_n 2, 1) := by decide +kernel
theorem dX3_eachHasOneOf_29 : decode cX3_eachHasOneOf 29 = .ok (.iaload, 1) := by decide +kernel
theorem dX3_eachHasOneOf_30 : decode cX3_eachHasOneOf 30 = .ok (.ishr, 1) := by decide +kernel
theorem dX3_eachHasOneOf_31 : decode cX3_eachHasOneOf 31 = .ok (.iconst 1, 1) := by decide +kernel
theorem dX3_eachHasOneOf_32 : decode cX3_eachHasOneOf 32 = .ok (.iand, 1) := by decide +kernel
theorem dX3_eachHasOneOf_33 : decode cX3_eachHasOneOf 33 = .ok (.ifCond .ne 5, 3) := by decide +kernel
theorem dX3_eachHasOneOf_36 : decode cX3_eachHasOneOf 36 = .ok (.iconst 0, 1) := by decide +kernel
theorem dX3_eachHasOneOf_37 : decode cX3_eachHasOneOf 37 = .ok (.ireturn, 1) := by decide +kernel
theorem dX3_eachHasOneOf_38 : decode cX3_eachHasOneOf 38 = .ok (.iinc 2 1, 3) := by decide +kernel
theorem dX3_eachHasOneOf_41 : decode cX3_eachHasOneOf 41 = .ok (.goto (-39), 3) := by decide +kernel
theorem dX3_eachHasOneOf_44 : decode cX3_eachHasOneOf 44 = .ok (.iconst 1, 1) := by decide +kernel
theorem dX3_eachHasOneOf_45 : decode cX3_eachHasOneOf 45 = .ok (.ireturn, 1) := by decide +kernel
theorem dX3_stepsBetween_0 : decode cX3_stepsBetween 0 = .ok (.iconst 1, 1) := by decide +kernel
theorem dX3_stepsBetween_1 : decode cX3_stepsBetween 1 = .ok (.iload_n 1, 1) := by decide +kernel
theorem dX3_stepsBetween_2 : decode cX3_stepsBetween 2 = .ok (.ishl, 1) := by decide +kernel
theorem dX3_stepsBetween_3 : decode cX3_stepsBetween 3 = .ok (.istore_n 3, 1) := by decide +kernel
theorem dX3_stepsBetween_4 : decode cX3_stepsBetween 4 = .ok (.iconst 0, 1) := by decide +kernel
theorem dX3_stepsBetween_5 : decode cX3_stepsBetween 5 = .ok (.istore 4, 2) := by decide +kernel
theorem dX3_stepsBetween_7 : decode cX3_stepsBetween 7 = .ok (.iload 4, 2) := by decide +kernel
theorem dX3_stepsBetween_9 : decode cX3_stepsBetween 9 = .ok (.bipush 12, 2) := by decide +kernel
theorem dX3_stepsBetween_11 : decode cX3_stepsBetween 11 = .ok (.if_icmp .ge 28, 3) := by decide +kernel
theorem dX3_stepsBetween_14 : decode cX3_stepsBetween 14 = .ok (.iload_n 3, 1) := by decide +kernel
theorem dX3_stepsBetween_15 : decode cX3_stepsBetween 15 = .ok (.iload_n 2, 1) := by decide +kernel
theorem dX3_stepsBetween_16 : decode cX3_stepsBetween 16 = .ok (.ishr, 1) := by decide +kernel
theorem dX3_stepsBetween_17 : decode cX3_stepsBetween 17 = .ok (.iconst 1, 1) := by decide +kernel
theorem dX3_stepsBetween_18 : decode cX3_stepsBetween 18 = .ok (.iand, 1) := by decide +kernel
theorem dX3_stepsBetween_19 : decode cX3_stepsBetween 19 = .ok (.ifCond .eq 6, 3) := by decide +kernel
theorem dX3_stepsBetween_22 : decode cX3_stepsBetween 22 = .ok (.iload 4, 2) := by decide +kernel
theorem dX3_stepsBetween_24 : decode cX3_stepsBetween 24 = .ok (.ireturn, 1) := by decide +kernel
theorem dX3_stepsBetween_25 : decode cX3_stepsBetween 25 = .ok (.iload_n 3, 1) := by decide +kernel
theorem dX3_stepsBetween_26 : decode cX3_stepsBetween 26 = .ok (.aload_n 0, 1) := by decide +kernel
theorem dX3_stepsBetween_27 : decode cX3_stepsBetween 27 = .ok (.iload_n 3, 1) := by decide +kernel
theorem dX3_stepsBetween_28 : decode cX3_stepsBetween 28 = .ok (.invokevirtual 44, 3) := by decide +kernel
theorem dX3_stepsBetween_31 : decode cX3_stepsBetween 31 = .ok (.ior, 1) := by decide +kernel
theorem dX3_stepsBetween_32 : decode cX3_stepsBetween 32 = .ok (.istore_n 3, 1) := by decide +kernel
theorem dX3_stepsBetween_33 : decode cX3_stepsBetween 33 = .ok (.iinc 4 1, 3) := by decide +kernel
theorem dX3_stepsBetween_36 : decode cX3_stepsBetween 36 = .ok (.goto (-29), 3) := by decide +kernel
theorem dX3_stepsBetween_39 : decode cX3_stepsBetween 39 = .ok (.iconst (-1), 1) := by decide +kernel
theorem dX3_stepsBetween_40 : decode cX3_stepsBetween 40 = .ok (.ireturn, 1) := by decide +kernel
theorem dX3_friendsOfAll_0 : decode cX3_friendsOfAll 0 = .ok (.iconst 0, 1) := by decide +kernel
theorem dX3_friendsOfAll_1 : decode cX3_friendsOfAll 1 = .ok (.istore_n 2, 1) := by decide +kernel
theorem dX3_friendsOfAll_2 : decode cX3_friendsOfAll 2 = .ok (.iconst 0, 1) := by decide +kernel
theorem dX3_friendsOfAll_3 : decode cX3_friendsOfAll 3 = .ok (.istore_n 3, 1) := by decide +kernel
theorem dX3_friendsOfAll_4 : decode cX3_friendsOfAll 4 = .ok (.iload_n 3, 1) := by decide +kernel
theorem dX3_friendsOfAll_5 : decode cX3_friendsOfAll 5 = .ok (.aload_n 0, 1) := by decide +kernel
theorem dX3_friendsOfAll_6 : decode cX3_friendsOfAll 6 = .ok (.getfield 9, 3) := by decide +kernel
theorem dX3_friendsOfAll_9 : decode cX3_friendsOfAll 9 = .ok (.if_icmp .ge 57, 3) := by decide +kernel
theorem dX3_friendsOfAll_12 : decode cX3_friendsOfAll 12 = .ok (.iload_n 1, 1) := by decide +kernel
theorem dX3_friendsOfAll_13 : decode cX3_friendsOfAll 13 = .ok (.aload_n 0, 1) := by decide +kernel
theorem dX3_friendsOfAll_14 : decode cX3_friendsOfAll 14 = .ok (.getfield 15, 3) := by decide +kernel
theorem dX3_friendsOfAll_17 : decode cX3_friendsOfAll 17 = .ok (.iload_n 3, 1) := by decide +kernel
theorem dX3_friendsOfAll_18 : decode cX3_friendsOfAll 18 = .ok (.iaload, 1) := by decide +kernel
theorem dX3_friendsOfAll_19 : decode cX3_friendsOfAll 19 = .ok (.ishr, 1) := by decide +kernel
theorem dX3_friendsOfAll_20 : decode cX3_friendsOfAll 20 = .ok (.iconst 1, 1) := by decide +kernel
theorem dX3_friendsOfAll_21 : decode cX3_friendsOfAll 21 = .ok (.iand, 1) := by decide +kernel
theorem dX3_friendsOfAll_22 : decode cX3_friendsOfAll 22 = .ok (.ifCond .eq 14, 3) := by decide +kernel
theorem dX3_friendsOfAll_25 : decode cX3_friendsOfAll 25 = .ok (.iload_n 2, 1) := by decide +kernel
theorem dX3_friendsOfAll_26 : decode cX3_friendsOfAll 26 = .ok (.iconst 1, 1) := by decide +kernel
theorem dX3_friendsOfAll_27 : decode cX3_friendsOfAll 27 = .ok (.aload_n 0, 1) := by decide +kernel
theorem dX3_friendsOfAll_28 : decode cX3_friendsOfAll 28 = .ok (.getfield 19, 3) := by decide +kernel
theorem dX3_friendsOfAll_31 : decode cX3_friendsOfAll 31 = .ok (.iload_n 3, 1) := by decide +kernel
theorem dX3_friendsOfAll_32 : decode cX3_friendsOfAll 32 = .ok (.iaload, 1) := by decide +kernel
theorem dX3_friendsOfAll_33 : decode cX3_friendsOfAll 33 = .ok (.ishl, 1) := by decide +kernel
theorem dX3_friendsOfAll_34 : decode cX3_friendsOfAll 34 = .ok (.ior, 1) := by decide +kernel
theorem dX3_friendsOfAll_35 : decode cX3_friendsOfAll 35 = .ok (.istore_n 2, 1) := by decide +kernel
theorem dX3_friendsOfAll_36 : decode cX3_friendsOfAll 36 = .ok (.iload_n 1, 1) := by decide +kernel
theorem dX3_friendsOfAll_37 : decode cX3_friendsOfAll 37 = .ok (.aload_n 0, 1) := by decide +kernel
theorem dX3_friendsOfAll_38 : decode cX3_friendsOfAll 38 = .ok (.getfield 19, 3) := by decide +kernel
theorem dX3_friendsOfAll_41 : decode cX3_friendsOfAll 41 = .ok (.iload_n 3, 1) := by decide +kernel
theorem dX3_friendsOfAll_42 : decode cX3_friendsOfAll 42 = .ok (.iaload, 1) := by decide +kernel
theorem dX3_friendsOfAll_43 : decode cX3_friendsOfAll 43 = .ok (.ishr, 1) := by decide +kernel
theorem dX3_friendsOfAll_44 : decode cX3_friendsOfAll 44 = .ok (.iconst 1, 1) := by decide +kernel
theorem dX3_friendsOfAll_45 : decode cX3_friendsOfAll 45 = .ok (.iand, 1) := by decide +kernel
theorem dX3_friendsOfAll_46 : decode cX3_friendsOfAll 46 = .ok (.ifCond .eq 14, 3) := by decide +kernel
theorem dX3_friendsOfAll_49 : decode cX3_friendsOfAll 49 = .ok (.iload_n 2, 1) := by decide +kernel
theorem dX3_friendsOfAll_50 : decode cX3_friendsOfAll 50 = .ok (.iconst 1, 1) := by decide +kernel
theorem dX3_friendsOfAll_51 : decode cX3_friendsOfAll 51 = .ok (.aload_n 0, 1) := by decide +kernel
theorem dX3_friendsOfAll_52 : decode cX3_friendsOfAll 52 = .ok (.getfield 15, 3) := by decide +kernel
theorem dX3_friendsOfAll_55 : decode cX3_friendsOfAll 55 = .ok (.iload_n 3, 1) := by decide +kernel
theorem dX3_friendsOfAll_56 : decode cX3_friendsOfAll 56 = .ok (.iaload, 1) := by decide +kernel
theorem dX3_friendsOfAll_57 : decode cX3_friendsOfAll 57 = .ok (.ishl, 1) := by decide +kernel
theorem dX3_friendsOfAll_58 : decode cX3_friendsOfAll 58 = .ok (.ior, 1) := by decide +kernel
theorem dX3_friendsOfAll_59 : decode cX3_friendsOfAll 59 = .ok (.istore_n 2, 1) := by decide +kernel
theorem dX3_friendsOfAll_60 : decode cX3_friendsOfAll 60 = .ok (.iinc 3 1, 3) := by decide +kernel
theorem dX3_friendsOfAll_63 : decode cX3_friendsOfAll 63 = .ok (.goto (-59), 3) := by decide +kernel
theorem dX3_friendsOfAll_66 : decode cX3_friendsOfAll 66 = .ok (.iload_n 2, 1) := by decide +kernel
theorem dX3_friendsOfAll_67 : decode cX3_friendsOfAll 67 = .ok (.ireturn, 1) := by decide +kernel
theorem dX4_init_0 : decode cX4_init 0 = .ok (.aload_n 0, 1) := by decide +kernel
theorem dX4_init_1 : decode cX4_init 1 = .ok (.invokespecial 3, 3) := by decide +kernel
theorem dX4_init_4 : decode cX4_init 4 = .ok (.aload_n 0, 1) := by decide +kernel
theorem dX4_init_5 : decode cX4_init 5 = .ok (.bipush 12, 2) := by decide +kernel
theorem dX4_init_7 : decode cX4_init 7 = .ok (.newarray .int, 2) := by decide +kernel
theorem dX4_init_9 : decode cX4_init 9 = .ok (.putfield 9, 3) := by decide +kernel
theorem dX4_init_12 : decode cX4_init 12 = .ok (.aload_n 0, 1) := by decide +kernel
theorem dX4_init_13 : decode cX4_init 13 = .ok (.bipush 13, 2) := by decide +kernel
theorem dX4_init_15 : decode cX4_init 15 = .ok (.newarray .int, 2) := by decide +kernel
theorem dX4_init_17 : decode cX4_init 17 = .ok (.putfield 15, 3) := by decide +kernel
theorem dX4_init_20 : decode cX4_init 20 = .ok (.return_, 1) := by decide +kernel
theorem dX4_clear_0 : decode cX4_clear 0 = .ok (.aload_n 0, 1) := by decide +kernel
theorem dX4_clear_1 : decode cX4_clear 1 = .ok (.getfield 9, 3) := by decide +kernel
theorem dX4_clear_4 : decode cX4_clear 4 = .ok (.iconst 0, 1) := by decide +kernel
theorem dX4_clear_5 : decode cX4_clear 5 = .ok (.invokestatic 18, 3) := by decide +kernel
theorem dX4_clear_8 : decode cX4_clear 8 = .ok (.return_, 1) := by decide +kernel
theorem dX4_liveTogether_0 : decode cX4_liveTogether 0 = .ok (.aload_n 0, 1) := by decide +kernel
theorem dX4_liveTogether_1 : decode cX4_liveTogether 1 = .ok (.getfield 15, 3) := by decide +kernel
theorem dX4_liveTogether_4 : decode cX4_liveTogether 4 = .ok (.iconst 0, 1) := by decide +kernel
theorem dX4_liveTogether_5 : decode cX4_liveTogether 5 = .ok (.invokestatic 18, 3) := by decide +kernel
theorem dX4_liveTogether_8 : decode cX4_liveTogether 8 = .ok (.iconst 0, 1) := by decide +kernel
theorem dX4_liveTogether_9 : decode cX4_liveTogether 9 = .ok (.istore_n 2, 1) := by decide +kernel
theorem dX4_liveTogether_10 : decode cX4_liveTogether 10 = .ok (.iload_n 2, 1) := by decide +kernel
theorem dX4_liveTogether_11 : decode cX4_liveTogether 11 = .ok (.aload_n 1, 1) := by decide +kernel
theorem dX4_liveTogether_12 : decode cX4_liveTogether 12 = .ok (.getfield 24, 3) := by decide +kernel
theorem dX4_liveTogether_15 : decode cX4_liveTogether 15 = .ok (.if_icmp .ge 26, 3) := by decide +kernel
theorem dX4_liveTogether_18 : decode cX4_liveTogether 18 = .ok (.aload_n 0, 1) := by decide +kernel
theorem dX4_liveTogether_19 : decode cX4_liveTogether 19 = .ok (.getfield 15, 3) := by decide +kernel
theorem dX4_liveTogether_22 : decode cX4_liveTogether 22 = .ok (.aload_n 1, 1) := by decide +kernel
theorem dX4_liveTogether_23 : decode cX4_liveTogether 23 = .ok (.getfield 30, 3) := by decide +kernel
theorem dX4_liveTogether_26 : decode cX4_liveTogether 26 = .ok (.iload_n 2, 1) := by decide +kernel
theorem dX4_liveTogether_27 : decode cX4_liveTogether 27 = .ok (.iaload, 1) := by decide +kernel
theorem dX4_liveTogether_28 : decode cX4_liveTogether 28 = .ok (.dup2, 1) := by decide +kernel
theorem dX4_liveTogether_29 : decode cX4_liveTogether 29 = .ok (.iaload, 1) := by decide +kernel
theorem dX4_liveTogether_30 : decode cX4_liveTogether 30 = .ok (.iconst 1, 1) := by decide +kernel
theorem dX4_liveTogether_31 : decode cX4_liveTogether 31 = .ok (.iload_n 2, 1) := by decide +kernel
theorem dX4_liveTogether_32 : decode cX4_liveTogether 32 = .ok (.ishl, 1) := by decide +kernel
theorem dX4_liveTogether_33 : decode cX4_liveTogether 33 = .ok (.ior, 1) := by decide +kernel
theorem dX4_liveTogether_34 : decode cX4_liveTogether 34 = .ok (.iastore, 1) := by decide +kernel
theorem dX4_liveTogether_35 : decode cX4_liveTogether 35 = .ok (.iinc 2 1, 3) := by decide +kernel
theorem dX4_liveTogether_38 : decode cX4_liveTogether 38 = .ok (.goto (-28), 3) := by decide +kernel
theorem dX4_liveTogether_41 : decode cX4_liveTogether 41 = .ok (.iconst 0, 1) := by decide +kernel
theorem dX4_liveTogether_42 : decode cX4_liveTogether 42 = .ok (.istore_n 2, 1) := by decide +kernel
theorem dX4_liveTogether_43 : decode cX4_liveTogether 43 = .ok (.iload_n 2, 1) := by decide +kernel
theorem dX4_liveTogether_44 : decode cX4_liveTogether 44 = .ok (.aload_n 1, 1) := by decide +kernel
theorem dX4_liveTogether_45 : decode cX4_liveTogether 45 = .ok (.getfield 24, 3) := by decide +kernel
theorem dX4_liveTogether_48 : decode cX4_liveTogether 48 = .ok (.if_icmp .ge 29, 3) := by decide +kernel
theorem dX4_liveTogether_51 : decode cX4_liveTogether 51 = .ok (.aload_n 0, 1) := by decide +kernel
theorem dX4_liveTogether_52 : decode cX4_liveTogether 52 = .ok (.getfield 9, 3) := by decide +kernel
theorem dX4_liveTogether_55 : decode cX4_liveTogether 55 = .ok (.iload_n 2, 1) := by decide +kernel
theorem dX4_liveTogether_56 : decode cX4_liveTogether 56 = .ok (.dup2, 1) := by decide +kernel
theorem dX4_liveTogether_57 : decode cX4_liveTogether 57 = .ok (.iaload, 1) := by decide +kernel
theorem dX4_liveTogether_58 : decode cX4_liveTogether 58 = .ok (.aload_n 0, 1) := by decide +kernel
theorem dX4_liveTogether_59 : decode cX4_liveTogether 59 = .ok (.getfield 15, 3) := by decide +kernel
theorem dX4_liveTogether_62 : decode cX4_liveTogether 62 = .ok (.aload_n 1, 1) := by decide +kernel
theorem dX4_liveTogether_63 : decode cX4_liveTogether 63 = .ok (.getfield 30, 3) := by decide +kernel
theorem dX4_liveTogether_66 : decode cX4_liveTogether 66 = .ok (.iload_n 2, 1) := by decide +kernel
theorem dX4_liveTogether_67 : decode cX4_liveTogether 67 = .ok (.iaload, 1) := by decide +kernel
theorem dX4_liveTogether_68 : decode cX4_liveTogether 68 = .ok (.iaload, 1) := by decide +kernel
theorem dX4_liveTogether_69 : decode cX4_liveTogether 69 = .ok (.ior, 1) := by decide +kernel
theorem dX4_liveTogether_70 : decode cX4_liveTogether 70 = .ok (.iastore, 1) := by decide +kernel
theorem dX4_liveTogether_71 : decode cX4_liveTogether 71 = .ok (.iinc 2 1, 3) := by decide +kernel
theorem dX4_liveTogether_74 : decode cX4_liveTogether 74 = .ok (.goto (-31), 3) := by decide +kernel
theorem dX4_liveTogether_77 : decode cX4_liveTogether 77 = .ok (.return_, 1) := by decide +kernel
theorem dX4_of_0 : decode cX4_of 0 = .ok (.aload_n 0, 1) := by decide +kernel
theorem dX4_of_1 : decode cX4_of 1 = .ok (.getfield 9, 3) := by decide +kernel
theorem dX4_of_4 : decode cX4_of 4 = .ok (.iload_n 1, 1) := by decide +kernel
theorem dX4_of_5 : decode cX4_of 5 = .ok (.iaload, 1) := by decide +kernel
theorem dX4_of_6 : decode cX4_of 6 = .ok (.iconst 1, 1) := by decide +kernel
theorem dX4_of_7 : decode cX4_of 7 = .ok (.iload_n 1, 1) := by decide +kernel
theorem dX4_of_8 : decode cX4_of 8 = .ok (.ishl, 1) := by decide +kernel
theorem dX4_of_9 : decode cX4_of 9 = .ok (.iconst (-1), 1) := by decide +kernel
theorem dX4_of_10 : decode cX4_of 10 = .ok (.ixor, 1) := by decide +kernel
theorem dX4_of_11 : decode cX4_of 11 = .ok (.iand, 1) := by decide +kernel
theorem dX4_of_12 : decode cX4_of 12 = .ok (.ireturn, 1) := by decide +kernel
theorem dX4_isAll_0 : decode cX4_isAll 0 = .ok (.iconst 0, 1) := by decide +kernel
theorem dX4_isAll_1 : decode cX4_isAll 1 = .ok (.istore_n 2, 1) := by decide +kernel
theorem dX4_isAll_2 : decode cX4_isAll 2 = .ok (.iload_n 2, 1) := by decide +kernel
theorem dX4_isAll_3 : decode cX4_isAll 3 = .ok (.iload_n 1, 1) := by decide +kernel
theorem dX4_isAll_4 : decode cX4_isAll 4 = .ok (.if_icmp .ge 25, 3) := by decide +kernel
theorem dX4_isAll_7 : decode cX4_isAll 7 = .ok (.aload_n 0, 1) := by decide +kernel
theorem dX4_isAll_8 : decode cX4_isAll 8 = .ok (.getfield 9, 3) := by decide +kernel
theorem dX4_isAll_11 : decode cX4_isAll 11 = .ok (.iload_n 2, 1) := by decide +kernel
theorem dX4_isAll_12 : decode cX4_isAll 12 = .ok (.iaload, 1) := by decide +kernel
theorem dX4_isAll_13 : decode cX4_isAll 13 = .ok (.iconst 1, 1) := by decide +kernel
theorem dX4_isAll_14 : decode cX4_isAll 14 = .ok (.iload_n 1, 1) := by decide +kernel
theorem dX4_isAll_15 : decode cX4_isAll 15 = .ok (.ishl, 1) := by decide +kernel
theorem dX4_isAll_16 : decode cX4_isAll 16 = .ok (.iconst 1, 1) := by decide +kernel
theorem dX4_isAll_17 : decode cX4_isAll 17 = .ok (.isub, 1) := by decide +kernel
theorem dX4_isAll_18 : decode cX4_isAll 18 = .ok (.if_icmp .eq 5, 3) := by decide +kernel
theorem dX4_isAll_21 : decode cX4_isAll 21 = .ok (.iconst 0, 1) := by decide +kernel
theorem dX4_isAll_22 : decode cX4_isAll 22 = .ok (.ireturn, 1) := by decide +kernel
theorem dX4_isAll_23 : decode cX4_isAll 23 = .ok (.iinc 2 1, 3) := by decide +kernel
theorem dX4_isAll_26 : decode cX4_isAll 26 = .ok (.goto (-24), 3) := by decide +kernel
theorem dX4_isAll_29 : decode cX4_isAll 29 = .ok (.iconst 1, 1) := by decide +kernel
theorem dX4_isAll_30 : decode cX4_isAll 30 = .ok (.ireturn, 1) := by decide +kernel
theorem dX4_strangers_0 : decode cX4_strangers 0 = .ok (.iconst 0, 1) := by decide +kernel
theorem dX4_strangers_1 : decode cX4_strangers 1 = .ok (.istore_n 2, 1) := by decide +kernel
theorem dX4_strangers_2 : decode cX4_strangers 2 = .ok (.iconst 0, 1) := by decide +kernel
theorem dX4_strangers_3 : decode cX4_strangers 3 = .ok (.istore_n 3, 1) := by decide +kernel
theorem dX4_strangers_4 : decode cX4_strangers 4 = .ok (.iload_n 3, 1) := by decide +kernel
theorem dX4_strangers_5 : decode cX4_strangers 5 = .ok (.iload_n 1, 1) := by decide +kernel
theorem dX4_strangers_6 : decode cX4_strangers 6 = .ok (.if_icmp .ge 23, 3) := by decide +kernel
theorem dX4_strangers_9 : decode cX4_strangers 9 = .ok (.iload_n 2, 1) := by decide +kernel
theorem dX4_strangers_10 : decode cX4_strangers 10 = .ok (.iload_n 1, 1) := by decide +kernel
theorem dX4_strangers_11 : decode cX4_strangers 11 = .ok (.aload_n 0, 1) := by decide +kernel
theorem dX4_strangers_12 : decode cX4_strangers 12 = .ok (.getfield 9, 3) := by decide +kernel
theorem dX4_strangers_15 : decode cX4_strangers 15 = .ok (.iload_n 3, 1) := by decide +kernel
theorem dX4_strangers_16 : decode cX4_strangers 16 = .ok (.iaload, 1) := by decide +kernel
theorem dX4_strangers_17 : decode cX4_strangers 17 = .ok (.invokestatic 33, 3) := by decide +kernel
theorem dX4_strangers_20 : decode cX4_strangers 20 = .ok (.isub, 1) := by decide +kernel
theorem dX4_strangers_21 : decode cX4_strangers 21 = .ok (.iadd, 1) := by decide +kernel
theorem dX4_strangers_22 : decode cX4_strangers 22 = .ok (.istore_n 2, 1) := by decide +kernel
theorem dX4_strangers_23 : decode cX4_strangers 23 = .ok (.iinc 3 1, 3) := by decide +kernel
theorem dX4_strangers_26 : decode cX4_strangers 26 = .ok (.goto (-22), 3) := by decide +kernel
theorem dX4_strangers_29 : decode cX4_strangers 29 = .ok (.iload_n 2, 1) := by decide +kernel
theorem dX4_strangers_30 : decode cX4_strangers 30 = .ok (.iconst 2, 1) := by decide +kernel
theorem dX4_strangers_31 : decode cX4_strangers 31 = .ok (.idiv, 1) := by decide +kernel
theorem dX4_strangers_32 : decode cX4_strangers 32 = .ok (.ireturn, 1) := by decide +kernel
theorem dX5_init_0 : decode cX5_init 0 = .ok (.aload_n 0, 1) := by decide +kernel
theorem dX5_init_1 : decode cX5_init 1 = .ok (.invokespecial 3, 3) := by decide +kernel
theorem dX5_init_4 : decode cX5_init 4 = .ok (.aload_n 0, 1) := by decide +kernel
theorem dX5_init_5 : decode cX5_init 5 = .ok (.bipush 12, 2) := by decide +kernel
theorem dX5_init_7 : decode cX5_init 7 = .ok (.newarray .int, 2) := by decide +kernel
theorem dX5_init_9 : decode cX5_init 9 = .ok (.putfield 9, 3) := by decide +kernel
theorem dX5_init_12 : decode cX5_init 12 = .ok (.return_, 1) := by decide +kernel
theorem dX5_many_0 : decode cX5_many 0 = .ok (.iconst 0, 1) := by decide +kernel
theorem dX5_many_1 : decode cX5_many 1 = .ok (.istore_n 2, 1) := by decide +kernel
theorem dX5_many_2 : decode cX5_many 2 = .ok (.iconst 0, 1) := by decide +kernel
theorem dX5_many_3 : decode cX5_many 3 = .ok (.istore_n 3, 1) := by decide +kernel
theorem dX5_many_4 : decode cX5_many 4 = .ok (.iload_n 3, 1) := by decide +kernel
theorem dX5_many_5 : decode cX5_many 5 = .ok (.aload_n 1, 1) := by decide +kernel
theorem dX5_many_6 : decode cX5_many 6 = .ok (.getfield 15, 3) := by decide +kernel
theorem dX5_many_9 : decode cX5_many 9 = .ok (.if_icmp .ge 20, 3) := by decide +kernel
theorem dX5_many_12 : decode cX5_many 12 = .ok (.iload_n 2, 1) := by decide +kernel
theorem dX5_many_13 : decode cX5_many 13 = .ok (.aload_n 1, 1) := by decide +kernel
theorem dX5_many_14 : decode cX5_many 14 = .ok (.getfield 21, 3) := by decide +kernel
theorem dX5_many_17 : decode cX5_many 17 = .ok (.iload_n 3, 1) := by decide +kernel
theorem dX5_many_18 : decode cX5_many 18 = .ok (.iaload, 1) := by decide +kernel
theorem dX5_many_19 : decode cX5_many 19 = .ok (.iconst 2, 1) := by decide +kernel
theorem dX5_many_20 : decode cX5_many 20 = .ok (.idiv, 1) := by decide +kernel
theorem dX5_many_21 : decode cX5_many 21 = .ok (.iadd, 1) := by decide +kernel
theorem dX5_many_22 : decode cX5_many 22 = .ok (.istore_n 2, 1) := by decide +kernel
theorem dX5_many_23 : decode cX5_many 23 = .ok (.iinc 3 1, 3) := by decide +kernel
theorem dX5_many_26 : decode cX5_many 26 = .ok (.goto (-22), 3) := by decide +kernel
theorem dX5_many_29 : decode cX5_many 29 = .ok (.iload_n 2, 1) := by decide +kernel
theorem dX5_many_30 : decode cX5_many 30 = .ok (.ireturn, 1) := by decide +kernel
theorem dX5_difference_0 : decode cX5_difference 0 = .ok (.iconst 0, 1) := by decide +kernel
theorem dX5_difference_1 : decode cX5_difference 1 = .ok (.istore_n 2, 1) := by decide +kernel
theorem dX5_difference_2 : decode cX5_difference 2 = .ok (.iconst 0, 1) := by decide +kernel
theorem dX5_difference_3 : decode cX5_difference 3 = .ok (.istore_n 3, 1) := by decide +kernel
theorem dX5_difference_4 : decode cX5_difference 4 = .ok (.iload_n 3, 1) := by decide +kernel
theorem dX5_difference_5 : decode cX5_difference 5 = .ok (.aload_n 1, 1) := by decide +kernel
theorem dX5_difference_6 : decode cX5_difference 6 = .ok (.getfield 15, 3) := by decide +kernel
theorem dX5_difference_9 : decode cX5_difference 9 = .ok (.if_icmp .ge 21, 3) := by decide +kernel
theorem dX5_difference_12 : decode cX5_difference 12 = .ok (.iload_n 2, 1) := by decide +kernel
theorem dX5_difference_13 : decode cX5_difference 13 = .ok (.aload_n 1, 1) := by decide +kernel
theorem dX5_difference_14 : decode cX5_difference 14 = .ok (.aload_n 1, 1) := by decide +kernel
theorem dX5_difference_15 : decode cX5_difference 15 = .ok (.iload_n 3, 1) := by decide +kernel
theorem dX5_difference_16 : decode cX5_difference 16 = .ok (.invokevirtual 24, 3) := by decide +kernel
theorem dX5_difference_19 : decode cX5_difference 19 = .ok (.invokestatic 28, 3) := by decide +kernel
theorem dX5_difference_22 : decode cX5_difference 22 = .ok (.iadd, 1) := by decide +kernel
theorem dX5_difference_23 : decode cX5_difference 23 = .ok (.istore_n 2, 1) := by decide +kernel
theorem dX5_difference_24 : decode cX5_difference 24 = .ok (.iinc 3 1, 3) := by decide +kernel
theorem dX5_difference_27 : decode cX5_difference 27 = .ok (.goto (-23), 3) := by decide +kernel
theorem dX5_difference_30 : decode cX5_difference 30 = .ok (.iload_n 2, 1) := by decide +kernel
theorem dX5_difference_31 : decode cX5_difference 31 = .ok (.ireturn, 1) := by decide +kernel
theorem dX5_partnerOf_0 : decode cX5_partnerOf 0 = .ok (.aload_n 0, 1) := by decide +kernel
theorem dX5_partnerOf_1 : decode cX5_partnerOf 1 = .ok (.getfield 9, 3) := by decide +kernel
theorem dX5_partnerOf_4 : decode cX5_partnerOf 4 = .ok (.iconst (-1), 1) := by decide +kernel
theorem dX5_partnerOf_5 : decode cX5_partnerOf 5 = .ok (.invokestatic 32, 3) := by decide +kernel
theorem dX5_partnerOf_8 : decode cX5_partnerOf 8 = .ok (.iconst 1, 1) := by decide +kernel
theorem dX5_partnerOf_9 : decode cX5_partnerOf 9 = .ok (.aload_n 1, 1) := by decide +kernel
theorem dX5_partnerOf_10 : decode cX5_partnerOf 10 = .ok (.getfield 38, 3) := by decide +kernel
theorem dX5_partnerOf_13 : decode cX5_partnerOf 13 = .ok (.ishl, 1) := by decide +kernel
theorem dX5_partnerOf_14 : decode cX5_partnerOf 14 = .ok (.iconst 1, 1) := by decide +kernel
theorem dX5_partnerOf_15 : decode cX5_partnerOf 15 = .ok (.isub, 1) := by decide +kernel
theorem dX5_partnerOf_16 : decode cX5_partnerOf 16 = .ok (.istore_n 3, 1) := by decide +kernel
theorem dX5_partnerOf_17 : decode cX5_partnerOf 17 = .ok (.iconst 0, 1) := by decide +kernel
theorem dX5_partnerOf_18 : decode cX5_partnerOf 18 = .ok (.istore 4, 2) := by decide +kernel
theorem dX5_partnerOf_20 : decode cX5_partnerOf 20 = .ok (.iload 4, 2) := by decide +kernel
theorem dX5_partnerOf_22 : decode cX5_partnerOf 22 = .ok (.aload_n 1, 1) := by decide +kernel
theorem dX5_partnerOf_23 : decode cX5_partnerOf 23 = .ok (.getfield 38, 3) := by decide +kernel
theorem dX5_partnerOf_26 : decode cX5_partnerOf 26 = .ok (.if_icmp .ge 81, 3) := by decide +kernel
theorem dX5_partnerOf_29 : decode cX5_partnerOf 29 = .ok (.iload_n 3, 1) := by decide +kernel
theorem dX5_partnerOf_30 : decode cX5_partnerOf 30 = .ok (.iload 4, 2) := by decide +kernel
theorem dX5_partnerOf_32 : decode cX5_partnerOf 32 = .ok (.ishr, 1) := by decide +kernel
theorem dX5_partnerOf_33 : decode cX5_partnerOf 33 = .ok (.iconst 1, 1) := by decide +kernel
theorem dX5_partnerOf_34 : decode cX5_partnerOf 34 = .ok (.iand, 1) := by decide +kernel
theorem dX5_partnerOf_35 : decode cX5_partnerOf 35 = .ok (.ifCond .eq 66, 3) := by decide +kernel
theorem dX5_partnerOf_38 : decode cX5_partnerOf 38 = .ok (.aload_n 1, 1) := by decide +kernel
theorem dX5_partnerOf_39 : decode cX5_partnerOf 39 = .ok (.iload 4, 2) := by decide +kernel
theorem dX5_partnerOf_41 : decode cX5_partnerOf 41 = .ok (.aload_n 1, 1) := by decide +kernel
theorem dX5_partnerOf_42 : decode cX5_partnerOf 42 = .ok (.aload_n 1, 1) := by decide +kernel
theorem dX5_partnerOf_43 : decode cX5_partnerOf 43 = .ok (.getfield 41, 3) := by decide +kernel
theorem dX5_partnerOf_46 : decode cX5_partnerOf 46 = .ok (.iload 4, 2) := by decide +kernel
theorem dX5_partnerOf_48 : decode cX5_partnerOf 48 = .ok (.iaload, 1) := by decide +kernel
theorem dX5_partnerOf_49 : decode cX5_partnerOf 49 = .ok (.invokevirtual 24, 3) := by decide +kernel
theorem dX5_partnerOf_52 : decode cX5_partnerOf 52 = .ok (.iload_n 3, 1) := by decide +kernel
theorem dX5_partnerOf_53 : decode cX5_partnerOf 53 = .ok (.iand, 1) := by decide +kernel
theorem dX5_partnerOf_54 : decode cX5_partnerOf 54 = .ok (.invokestatic 44, 3) := by decide +kernel
theorem dX5_partnerOf_57 : decode cX5_partnerOf 57 = .ok (.istore 5, 2) := by decide +kernel
theorem dX5_partnerOf_59 : decode cX5_partnerOf 59 = .ok (.iload_n 3, 1) := by decide +kernel
theorem dX5_partnerOf_60 : decode cX5_partnerOf 60 = .ok (.iconst 1, 1) := by decide +kernel
theorem dX5_partnerOf_61 : decode cX5_partnerOf 61 = .ok (.iload 4, 2) := by decide +kernel
theorem dX5_partnerOf_63 : decode cX5_partnerOf 63 = .ok (.ishl, 1) := by decide +kernel
theorem dX5_partnerOf_64 : decode cX5_partnerOf 64 = .ok (.iconst (-1), 1) := by decide +kernel
theorem dX5_partnerOf_65 : decode cX5_partnerOf 65 = .ok (.ixor, 1) := by decide +kernel
theorem dX5_partnerOf_66 : decode cX5_partnerOf 66 = .ok (.iand, 1) := by decide +kernel
theorem dX5_partnerOf_67 : decode cX5_partnerOf 67 = .ok (.istore_n 3, 1) := by decide +kernel
theorem dX5_partnerOf_68 : decode cX5_partnerOf 68 = .ok (.iload 5, 2) := by decide +kernel
theorem dX5_partnerOf_70 : decode cX5_partnerOf 70 = .ok (.iconst (-1), 1) := by decide +kernel
theorem dX5_partnerOf_71 : decode cX5_partnerOf 71 = .ok (.if_icmp .eq 30, 3) := by decide +kernel
theorem dX5_partnerOf_74 : decode cX5_partnerOf 74 = .ok (.aload_n 0, 1) := by decide +kernel
theorem dX5_partnerOf_75 : decode cX5_partnerOf 75 = .ok (.getfield 9, 3) := by decide +kernel
theorem dX5_partnerOf_78 : decode cX5_partnerOf 78 = .ok (.iload 4, 2) := by decide +kernel
theorem dX5_partnerOf_80 : decode cX5_partnerOf 80 = .ok (.iload 5, 2) := by decide +kernel
theorem dX5_partnerOf_82 : decode cX5_partnerOf 82 = .ok (.iastore, 1) := by decide +kernel
theorem dX5_partnerOf_83 : decode cX5_partnerOf 83 = .ok (.aload_n 0, 1) := by decide +kernel
theorem dX5_partnerOf_84 : decode cX5_partnerOf 84 = .ok (.getfield 9, 3) := by decide +kernel
theorem dX5_partnerOf_87 : decode cX5_partnerOf 87 = .ok (.iload 5, 2) := by decide +kernel
theorem dX5_partnerOf_89 : decode cX5_partnerOf 89 = .ok (.iload 4, 2) := by decide +kernel
theorem dX5_partnerOf_91 : decode cX5_partnerOf 91 = .ok (.iastore, 1) := by decide +kernel
theorem dX5_partnerOf_92 : decode cX5_partnerOf 92 = .ok (.iload_n 3, 1) := by decide +kernel
theorem dX5_partnerOf_93 : decode cX5_partnerOf 93 = .ok (.iconst 1, 1) := by decide +kernel
theorem dX5_partnerOf_94 : decode cX5_partnerOf 94 = .ok (.iload 5, 2) := by decide +kernel
theorem dX5_partnerOf_96 : decode cX5_partnerOf 96 = .ok (.ishl, 1) := by decide +kernel
theorem dX5_partnerOf_97 : decode cX5_partnerOf 97 = .ok (.iconst (-1), 1) := by decide +kernel
theorem dX5_partnerOf_98 : decode cX5_partnerOf 98 = .ok (.ixor, 1) := by decide +kernel
theorem dX5_partnerOf_99 : decode cX5_partnerOf 99 = .ok (.iand, 1) := by decide +kernel
theorem dX5_partnerOf_100 : decode cX5_partnerOf 100 = .ok (.istore_n 3, 1) := by decide +kernel
theorem dX5_partnerOf_101 : decode cX5_partnerOf 101 = .ok (.iinc 4 1, 3) := by decide +kernel
theorem dX5_partnerOf_104 : decode cX5_partnerOf 104 = .ok (.goto (-84), 3) := by decide +kernel
theorem dX5_partnerOf_107 : decode cX5_partnerOf 107 = .ok (.aload_n 0, 1) := by decide +kernel
theorem dX5_partnerOf_108 : decode cX5_partnerOf 108 = .ok (.getfield 9, 3) := by decide +kernel
theorem dX5_partnerOf_111 : decode cX5_partnerOf 111 = .ok (.iload_n 2, 1) := by decide +kernel
theorem dX5_partnerOf_112 : decode cX5_partnerOf 112 = .ok (.iaload, 1) := by decide +kernel
theorem dX5_partnerOf_113 : decode cX5_partnerOf 113 = .ok (.ireturn, 1) := by decide +kernel
theorem dX5_firstPartner_0 : decode cX5_firstPartner 0 = .ok (.aload_n 0, 1) := by decide +kernel
theorem dX5_firstPartner_1 : decode cX5_firstPartner 1 = .ok (.iload_n 2, 1) := by decide +kernel
theorem dX5_firstPartner_2 : decode cX5_firstPartner 2 = .ok (.invokestatic 28, 3) := by decide +kernel
theorem dX5_firstPartner_5 : decode cX5_firstPartner 5 = .ok (.istore_n 3, 1) := by decide +kernel
theorem dX5_firstPartner_6 : decode cX5_firstPartner 6 = .ok (.iload_n 1, 1) := by decide +kernel
theorem dX5_firstPartner_7 : decode cX5_firstPartner 7 = .ok (.iconst 1, 1) := by decide +kernel
theorem dX5_firstPartner_8 : decode cX5_firstPartner 8 = .ok (.iadd, 1) := by decide +kernel
theorem dX5_firstPartner_9 : decode cX5_firstPartner 9 = .ok (.istore 4, 2) := by decide +kernel
theorem dX5_firstPartner_11 : decode cX5_firstPartner 11 = .ok (.iload 4, 2) := by decide +kernel
theorem dX5_firstPartner_13 : decode cX5_firstPartner 13 = .ok (.aload_n 0, 1) := by decide +kernel
theorem dX5_firstPartner_14 : decode cX5_firstPartner 14 = .ok (.getfield 38, 3) := by decide +kernel
theorem dX5_firstPartner_17 : decode cX5_firstPartner 17 = .ok (.if_icmp .ge 65, 3) := by decide +kernel
theorem dX5_firstPartner_20 : decode cX5_firstPartner 20 = .ok (.iload_n 2, 1) := by decide +kernel
theorem dX5_firstPartner_21 : decode cX5_firstPartner 21 = .ok (.iload 4, 2) := by decide +kernel
theorem dX5_firstPartner_23 : decode cX5_firstPartner 23 = .ok (.ishr, 1) := by decide +kernel
theorem dX5_firstPartner_24 : decode cX5_firstPartner 24 = .ok (.iconst 1, 1) := by decide +kernel
theorem dX5_firstPartner_25 : decode cX5_firstPartner 25 = .ok (.iand, 1) := by decide +kernel
theorem dX5_firstPartner_26 : decode cX5_firstPartner 26 = .ok (.ifCond .eq 50, 3) := by decide +kernel
theorem dX5_firstPartner_29 : decode cX5_firstPartner 29 = .ok (.aload_n 0, 1) := by decide +kernel
theorem dX5_firstPartner_30 : decode cX5_firstPartner 30 = .ok (.getfield 48, 3) := by decide +kernel
theorem dX5_firstPartner_33 : decode cX5_firstPartner 33 = .ok (.iload_n 1, 1) := by decide +kernel
theorem dX5_firstPartner_34 : decode cX5_firstPartner 34 = .ok (.iaload, 1) := by decide +kernel
theorem dX5_firstPartner_35 : decode cX5_firstPartner 35 = .ok (.aload_n 0, 1) := by decide +kernel
theorem dX5_firstPartner_36 : decode cX5_firstPartner 36 = .ok (.getfield 48, 3) := by decide +kernel
theorem dX5_firstPartner_39 : decode cX5_firstPartner 39 = .ok (.iload 4, 2) := by decide +kernel
theorem dX5_firstPartner_41 : decode cX5_firstPartner 41 = .ok (.iaload, 1) := by decide +kernel
theorem dX5_firstPartner_42 : decode cX5_firstPartner 42 = .ok (.isub, 1) := by decide +kernel
theorem dX5_firstPartner_43 : decode cX5_firstPartner 43 = .ok (.invokestatic 51, 3) := by decide +kernel
theorem dX5_firstPartner_46 : decode cX5_firstPartner 46 = .ok (.istore 5, 2) := by decide +kernel
theorem dX5_firstPartner_48 : decode cX5_firstPartner 48 = .ok (.iload 5, 2) := by decide +kernel
theorem dX5_firstPartner_50 : decode cX5_firstPartner 50 = .ok (.aload_n 0, 1) := by decide +kernel
theorem dX5_firstPartner_51 : decode cX5_firstPartner 51 = .ok (.iload_n 2, 1) := by decide +kernel
theorem dX5_firstPartner_52 : decode cX5_firstPartner 52 = .ok (.iconst 1, 1) := by decide +kernel
theorem dX5_firstPartner_53 : decode cX5_firstPartner 53 = .ok (.iload_n 1, 1) := by decide +kernel
theorem dX5_firstPartner_54 : decode cX5_firstPartner 54 = .ok (.ishl, 1) := by decide +kernel
theorem dX5_firstPartner_55 : decode cX5_firstPartner 55 = .ok (.iconst (-1), 1) := by decide +kernel
theorem dX5_firstPartner_56 : decode cX5_firstPartner 56 = .ok (.ixor, 1) := by decide +kernel
theorem dX5_firstPartner_57 : decode cX5_firstPartner 57 = .ok (.iand, 1) := by decide +kernel
theorem dX5_firstPartner_58 : decode cX5_firstPartner 58 = .ok (.iconst 1, 1) := by decide +kernel
theorem dX5_firstPartner_59 : decode cX5_firstPartner 59 = .ok (.iload 4, 2) := by decide +kernel
theorem dX5_firstPartner_61 : decode cX5_firstPartner 61 = .ok (.ishl, 1) := by decide +kernel
theorem dX5_firstPartner_62 : decode cX5_firstPartner 62 = .ok (.iconst (-1), 1) := by decide +kernel
theorem dX5_firstPartner_63 : decode cX5_firstPartner 63 = .ok (.ixor, 1) := by decide +kernel
theorem dX5_firstPartner_64 : decode cX5_firstPartner 64 = .ok (.iand, 1) := by decide +kernel
theorem dX5_firstPartner_65 : decode cX5_firstPartner 65 = .ok (.invokestatic 28, 3) := by decide +kernel
theorem dX5_firstPartner_68 : decode cX5_firstPartner 68 = .ok (.iadd, 1) := by decide +kernel
theorem dX5_firstPartner_69 : decode cX5_firstPartner 69 = .ok (.iload_n 3, 1) := by decide +kernel
theorem dX5_firstPartner_70 : decode cX5_firstPartner 70 = .ok (.if_icmp .ne 6, 3) := by decide +kernel
theorem dX5_firstPartner_73 : decode cX5_firstPartner 73 = .ok (.iload 4, 2) := by decide +kernel
theorem dX5_firstPartner_75 : decode cX5_firstPartner 75 = .ok (.ireturn, 1) := by decide +kernel
theorem dX5_firstPartner_76 : decode cX5_firstPartner 76 = .ok (.iinc 4 1, 3) := by decide +kernel
theorem dX5_firstPartner_79 : decode cX5_firstPartner 79 = .ok (.goto (-68), 3) := by decide +kernel
theorem dX5_firstPartner_82 : decode cX5_firstPartner 82 = .ok (.iconst (-1), 1) := by decide +kernel
theorem dX5_firstPartner_83 : decode cX5_firstPartner 83 = .ok (.ireturn, 1) := by decide +kernel
theorem dX5_least_0 : decode cX5_least 0 = .ok (.iload_n 1, 1) := by decide +kernel
theorem dX5_least_1 : decode cX5_least 1 = .ok (.invokestatic 56, 3) := by decide +kernel
theorem dX5_least_4 : decode cX5_least 4 = .ok (.iconst 2, 1) := by decide +kernel
theorem dX5_least_5 : decode cX5_least 5 = .ok (.irem, 1) := by decide +kernel
theorem dX5_least_6 : decode cX5_least 6 = .ok (.ifCond .ne 9, 3) := by decide +kernel
theorem dX5_least_9 : decode cX5_least 9 = .ok (.aload_n 0, 1) := by decide +kernel
theorem dX5_least_10 : decode cX5_least 10 = .ok (.iload_n 1, 1) := by decide +kernel
theorem dX5_least_11 : decode cX5_least 11 = .ok (.invokestatic 61, 3) := by decide +kernel
theorem dX5_least_14 : decode cX5_least 14 = .ok (.ireturn, 1) := by decide +kernel
theorem dX5_least_15 : decode cX5_least 15 = .ok (.sipush 1000, 3) := by decide +kernel
theorem dX5_least_18 : decode cX5_least 18 = .ok (.istore_n 2, 1) := by decide +kernel
theorem dX5_least_19 : decode cX5_least 19 = .ok (.iconst 0, 1) := by decide +kernel
theorem dX5_least_20 : decode cX5_least 20 = .ok (.istore_n 3, 1) := by decide +kernel
theorem dX5_least_21 : decode cX5_least 21 = .ok (.iload_n 3, 1) := by decide +kernel
theorem dX5_least_22 : decode cX5_least 22 = .ok (.aload_n 0, 1) := by decide +kernel
theorem dX5_least_23 : decode cX5_least 23 = .ok (.getfield 38, 3) := by decide +kernel
theorem dX5_least_26 : decode cX5_least 26 = .ok (.if_icmp .ge 33, 3) := by decide +kernel
theorem dX5_least_29 : decode cX5_least 29 = .ok (.iload_n 1, 1) := by decide +kernel
theorem dX5_least_30 : decode cX5_least 30 = .ok (.iload_n 3, 1) := by decide +kernel
theorem dX5_least_31 : decode cX5_least 31 = .ok (.ishr, 1) := by decide +kernel
theorem dX5_least_32 : decode cX5_least 32 = .ok (.iconst 1, 1) := by decide +kernel
theorem dX5_least_33 : decode cX5_least 33 = .ok (.iand, 1) := by decide +kernel
theorem dX5_least_34 : decode cX5_least 34 = .ok (.ifCond .eq 19, 3) := by decide +kernel
theorem dX5_least_37 : decode cX5_least 37 = .ok (.iload_n 2, 1) := by decide +kernel
theorem dX5_least_38 : decode cX5_least 38 = .ok (.aload_n 0, 1) := by decide +kernel
theorem dX5_least_39 : decode cX5_least 39 = .ok (.iload_n 1, 1) := by decide +kernel
theorem dX5_least_40 : decode cX5_least 40 = .ok (.iconst 1, 1) := by decide +kernel
theorem dX5_least_41 : decode cX5_least 41 = .ok (.iload_n 3, 1) := by decide +kernel
theorem dX5_least_42 : decode cX5_least 42 = .ok (.ishl, 1) := by decide +kernel
theorem dX5_least_43 : decode cX5_least 43 = .ok (.iconst (-1), 1) := by decide +kernel
theorem dX5_least_44 : decode cX5_least 44 = .ok (.ixor, 1) := by decide +kernel
theorem dX5_least_45 : decode cX5_least 45 = .ok (.iand, 1) := by decide +kernel
theorem dX5_least_46 : decode cX5_least 46 = .ok (.invokestatic 61, 3) := by decide +kernel
theorem dX5_least_49 : decode cX5_least 49 = .ok (.invokestatic 64, 3) := by decide +kernel
theorem dX5_least_52 : decode cX5_least 52 = .ok (.istore_n 2, 1) := by decide +kernel
theorem dX5_least_53 : decode cX5_least 53 = .ok (.iinc 3 1, 3) := by decide +kernel
theorem dX5_least_56 : decode cX5_least 56 = .ok (.goto (-35), 3) := by decide +kernel
theorem dX5_least_59 : decode cX5_least 59 = .ok (.iload_n 2, 1) := by decide +kernel
theorem dX5_least_60 : decode cX5_least 60 = .ok (.ireturn, 1) := by decide +kernel
theorem dX5_leastOfEven_0 : decode cX5_leastOfEven 0 = .ok (.iconst 0, 1) := by decide +kernel
theorem dX5_leastOfEven_1 : decode cX5_leastOfEven 1 = .ok (.istore_n 2, 1) := by decide +kernel
theorem dX5_leastOfEven_2 : decode cX5_leastOfEven 2 = .ok (.iconst 0, 1) := by decide +kernel
theorem dX5_leastOfEven_3 : decode cX5_leastOfEven 3 = .ok (.istore_n 3, 1) := by decide +kernel
theorem dX5_leastOfEven_4 : decode cX5_leastOfEven 4 = .ok (.iload_n 3, 1) := by decide +kernel
theorem dX5_leastOfEven_5 : decode cX5_leastOfEven 5 = .ok (.aload_n 0, 1) := by decide +kernel
theorem dX5_leastOfEven_6 : decode cX5_leastOfEven 6 = .ok (.getfield 38, 3) := by decide +kernel
theorem dX5_leastOfEven_9 : decode cX5_leastOfEven 9 = .ok (.if_icmp .ge 28, 3) := by decide +kernel
theorem dX5_leastOfEven_12 : decode cX5_leastOfEven 12 = .ok (.iload_n 1, 1) := by decide +kernel
theorem dX5_leastOfEven_13 : decode cX5_leastOfEven 13 = .ok (.iload_n 3, 1) := by decide +kernel
theorem dX5_leastOfEven_14 : decode cX5_leastOfEven 14 = .ok (.ishr, 1) := by decide +kernel
theorem dX5_leastOfEven_15 : decode cX5_leastOfEven 15 = .ok (.iconst 1, 1) := by decide +kernel
theorem dX5_leastOfEven_16 : decode cX5_leastOfEven 16 = .ok (.iand, 1) := by decide +kernel
theorem dX5_leastOfEven_17 : decode cX5_leastOfEven 17 = .ok (.ifCond .eq 14, 3) := by decide +kernel
theorem dX5_leastOfEven_20 : decode cX5_leastOfEven 20 = .ok (.iload_n 2, 1) := by decide +kernel
theorem dX5_leastOfEven_21 : decode cX5_leastOfEven 21 = .ok (.iconst 1, 1) := by decide +kernel
theorem dX5_leastOfEven_22 : decode cX5_leastOfEven 22 = .ok (.aload_n 0, 1) := by decide +kernel
theorem dX5_leastOfEven_23 : decode cX5_leastOfEven 23 = .ok (.getfield 48, 3) := by decide +kernel
theorem dX5_leastOfEven_26 : decode cX5_leastOfEven 26 = .ok (.iload_n 3, 1) := by decide +kernel
theorem dX5_leastOfEven_27 : decode cX5_leastOfEven 27 = .ok (.iaload, 1) := by decide +kernel
theorem dX5_leastOfEven_28 : decode cX5_leastOfEven 28 = .ok (.ishl, 1) := by decide +kernel
theorem dX5_leastOfEven_29 : decode cX5_leastOfEven 29 = .ok (.ixor, 1) := by decide +kernel
theorem dX5_leastOfEven_30 : decode cX5_leastOfEven 30 = .ok (.istore_n 2, 1) := by decide +kernel
theorem dX5_leastOfEven_31 : decode cX5_leastOfEven 31 = .ok (.iinc 3 1, 3) := by decide +kernel
theorem dX5_leastOfEven_34 : decode cX5_leastOfEven 34 = .ok (.goto (-30), 3) := by decide +kernel
theorem dX5_leastOfEven_37 : decode cX5_leastOfEven 37 = .ok (.iconst 0, 1) := by decide +kernel
theorem dX5_leastOfEven_38 : decode cX5_leastOfEven 38 = .ok (.istore_n 3, 1) := by decide +kernel
theorem dX5_leastOfEven_39 : decode cX5_leastOfEven 39 = .ok (.iconst 0, 1) := by decide +kernel
theorem dX5_leastOfEven_40 : decode cX5_leastOfEven 40 = .ok (.istore 4, 2) := by decide +kernel
theorem dX5_leastOfEven_42 : decode cX5_leastOfEven 42 = .ok (.iconst 0, 1) := by decide +kernel
theorem dX5_leastOfEven_43 : decode cX5_leastOfEven 43 = .ok (.istore 5, 2) := by decide +kernel
theorem dX5_leastOfEven_45 : decode cX5_leastOfEven 45 = .ok (.iload 5, 2) := by decide +kernel
theorem dX5_leastOfEven_47 : decode cX5_leastOfEven 47 = .ok (.bipush 9, 2) := by decide +kernel
theorem dX5_leastOfEven_49 : decode cX5_leastOfEven 49 = .ok (.if_icmp .ge 25, 3) := by decide +kernel
theorem dX5_leastOfEven_52 : decode cX5_leastOfEven 52 = .ok (.iload 4, 2) := by decide +kernel
theorem dX5_leastOfEven_54 : decode cX5_leastOfEven 54 = .ok (.iload_n 2, 1) := by decide +kernel
theorem dX5_leastOfEven_55 : decode cX5_leastOfEven 55 = .ok (.iload 5, 2) := by decide +kernel
theorem dX5_leastOfEven_57 : decode cX5_leastOfEven 57 = .ok (.ishr, 1) := by decide +kernel
theorem dX5_leastOfEven_58 : decode cX5_leastOfEven 58 = .ok (.iconst 1, 1) := by decide +kernel
theorem dX5_leastOfEven_59 : decode cX5_leastOfEven 59 = .ok (.iand, 1) := by decide +kernel
theorem dX5_leastOfEven_60 : decode cX5_leastOfEven 60 = .ok (.ixor, 1) := by decide +kernel
theorem dX5_leastOfEven_61 : decode cX5_leastOfEven 61 = .ok (.istore 4, 2) := by decide +kernel
theorem dX5_leastOfEven_63 : decode cX5_leastOfEven 63 = .ok (.iload_n 3, 1) := by decide +kernel
theorem dX5_leastOfEven_64 : decode cX5_leastOfEven 64 = .ok (.iload 4, 2) := by decide +kernel
theorem dX5_leastOfEven_66 : decode cX5_leastOfEven 66 = .ok (.iadd, 1) := by decide +kernel
theorem dX5_leastOfEven_67 : decode cX5_leastOfEven 67 = .ok (.istore_n 3, 1) := by decide +kernel
theorem dX5_leastOfEven_68 : decode cX5_leastOfEven 68 = .ok (.iinc 5 1, 3) := by decide +kernel
theorem dX5_leastOfEven_71 : decode cX5_leastOfEven 71 = .ok (.goto (-26), 3) := by decide +kernel
theorem dX5_leastOfEven_74 : decode cX5_leastOfEven 74 = .ok (.iload_n 3, 1) := by decide +kernel
theorem dX5_leastOfEven_75 : decode cX5_leastOfEven 75 = .ok (.ireturn, 1) := by decide +kernel
theorem dX5_firstHalf_0 : decode cX5_firstHalf 0 = .ok (.iconst 0, 1) := by decide +kernel
theorem dX5_firstHalf_1 : decode cX5_firstHalf 1 = .ok (.istore_n 2, 1) := by decide +kernel
theorem dX5_firstHalf_2 : decode cX5_firstHalf 2 = .ok (.sipush 1000, 3) := by decide +kernel
theorem dX5_firstHalf_5 : decode cX5_firstHalf 5 = .ok (.istore_n 3, 1) := by decide +kernel
theorem dX5_firstHalf_6 : decode cX5_firstHalf 6 = .ok (.iconst 1, 1) := by decide +kernel
theorem dX5_firstHalf_7 : decode cX5_firstHalf 7 = .ok (.istore 4, 2) := by decide +kernel
theorem dX5_firstHalf_9 : decode cX5_firstHalf 9 = .ok (.iload 4, 2) := by decide +kernel
theorem dX5_firstHalf_11 : decode cX5_firstHalf 11 = .ok (.iconst 1, 1) := by decide +kernel
theorem dX5_firstHalf_12 : decode cX5_firstHalf 12 = .ok (.aload_n 1, 1) := by decide +kernel
theorem dX5_firstHalf_13 : decode cX5_firstHalf 13 = .ok (.getfield 38, 3) := by decide +kernel
theorem dX5_firstHalf_16 : decode cX5_firstHalf 16 = .ok (.ishl, 1) := by decide +kernel
theorem dX5_firstHalf_17 : decode cX5_firstHalf 17 = .ok (.if_icmp .ge 30, 3) := by decide +kernel
theorem dX5_firstHalf_20 : decode cX5_firstHalf 20 = .ok (.aload_n 0, 1) := by decide +kernel
theorem dX5_firstHalf_21 : decode cX5_firstHalf 21 = .ok (.aload_n 1, 1) := by decide +kernel
theorem dX5_firstHalf_22 : decode cX5_firstHalf 22 = .ok (.iload 4, 2) := by decide +kernel
theorem dX5_firstHalf_24 : decode cX5_firstHalf 24 = .ok (.invokevirtual 68, 3) := by decide +kernel
theorem dX5_firstHalf_27 : decode cX5_firstHalf 27 = .ok (.istore 5, 2) := by decide +kernel
theorem dX5_firstHalf_29 : decode cX5_firstHalf 29 = .ok (.iload 5, 2) := by decide +kernel
theorem dX5_firstHalf_31 : decode cX5_firstHalf 31 = .ok (.iload_n 3, 1) := by decide +kernel
theorem dX5_firstHalf_32 : decode cX5_firstHalf 32 = .ok (.if_icmp .ge 9, 3) := by decide +kernel
theorem dX5_firstHalf_35 : decode cX5_firstHalf 35 = .ok (.iload 4, 2) := by decide +kernel
theorem dX5_firstHalf_37 : decode cX5_firstHalf 37 = .ok (.istore_n 2, 1) := by decide +kernel
theorem dX5_firstHalf_38 : decode cX5_firstHalf 38 = .ok (.iload 5, 2) := by decide +kernel
theorem dX5_firstHalf_40 : decode cX5_firstHalf 40 = .ok (.istore_n 3, 1) := by decide +kernel
theorem dX5_firstHalf_41 : decode cX5_firstHalf 41 = .ok (.iinc 4 2, 3) := by decide +kernel
theorem dX5_firstHalf_44 : decode cX5_firstHalf 44 = .ok (.goto (-35), 3) := by decide +kernel
theorem dX5_firstHalf_47 : decode cX5_firstHalf 47 = .ok (.iload_n 2, 1) := by decide +kernel
theorem dX5_firstHalf_48 : decode cX5_firstHalf 48 = .ok (.ireturn, 1) := by decide +kernel
theorem dX5_differenceBy_0 : decode cX5_differenceBy 0 = .ok (.iconst 0, 1) := by decide +kernel
theorem dX5_differenceBy_1 : decode cX5_differenceBy 1 = .ok (.istore_n 3, 1) := by decide +kernel
theorem dX5_differenceBy_2 : decode cX5_differenceBy 2 = .ok (.iconst 0, 1) := by decide +kernel
theorem dX5_differenceBy_3 : decode cX5_differenceBy 3 = .ok (.istore 4, 2) := by decide +kernel
theorem dX5_differenceBy_5 : decode cX5_differenceBy 5 = .ok (.iload 4, 2) := by decide +kernel
theorem dX5_differenceBy_7 : decode cX5_differenceBy 7 = .ok (.aload_n 1, 1) := by decide +kernel
theorem dX5_differenceBy_8 : decode cX5_differenceBy 8 = .ok (.getfield 38, 3) := by decide +kernel
theorem dX5_differenceBy_11 : decode cX5_differenceBy 11 = .ok (.if_icmp .ge 39, 3) := by decide +kernel
theorem dX5_differenceBy_14 : decode cX5_differenceBy 14 = .ok (.iload_n 3, 1) := by decide +kernel
theorem dX5_differenceBy_15 : decode cX5_differenceBy 15 = .ok (.iload_n 2, 1) := by decide +kernel
theorem dX5_differenceBy_16 : decode cX5_differenceBy 16 = .ok (.iload 4, 2) := by decide +kernel
theorem dX5_differenceBy_18 : decode cX5_differenceBy 18 = .ok (.ishr, 1) := by decide +kernel
theorem dX5_differenceBy_19 : decode cX5_differenceBy 19 = .ok (.iconst 1, 1) := by decide +kernel
theorem dX5_differenceBy_20 : decode cX5_differenceBy 20 = .ok (.iand, 1) := by decide +kernel
theorem dX5_differenceBy_21 : decode cX5_differenceBy 21 = .ok (.ifCond .eq 13, 3) := by decide +kernel
theorem dX5_differenceBy_24 : decode cX5_differenceBy 24 = .ok (.aload_n 1, 1) := by decide +kernel
theorem dX5_differenceBy_25 : decode cX5_differenceBy 25 = .ok (.getfield 48, 3) := by decide +kernel
theorem dX5_differenceBy_28 : decode cX5_differenceBy 28 = .ok (.iload 4, 2) := by decide +kernel
theorem dX5_differenceBy_30 : decode cX5_differenceBy 30 = .ok (.iaload, 1) := by decide +kernel
theorem dX5_differenceBy_31 : decode cX5_differenceBy 31 = .ok (.goto 11, 3) := by decide +kernel
theorem dX5_differenceBy_34 : decode cX5_differenceBy 34 = .ok (.aload_n 1, 1) := by decide +kernel
theorem dX5_differenceBy_35 : decode cX5_differenceBy 35 = .ok (.getfield 48, 3) := by decide +kernel
theorem dX5_differenceBy_38 : decode cX5_differenceBy 38 = .ok (.iload 4, 2) := by decide +kernel
theorem dX5_differenceBy_40 : decode cX5_differenceBy 40 = .ok (.iaload, 1) := by decide +kernel
theorem dX5_differenceBy_41 : decode cX5_differenceBy 41 = .ok (.ineg, 1) := by decide +kernel
theorem dX5_differenceBy_42 : decode cX5_differenceBy 42 = .ok (.iadd, 1) := by decide +kernel
theorem dX5_differenceBy_43 : decode cX5_differenceBy 43 = .ok (.istore_n 3, 1) := by decide +kernel
theorem dX5_differenceBy_44 : decode cX5_differenceBy 44 = .ok (.iinc 4 1, 3) := by decide +kernel
theorem dX5_differenceBy_47 : decode cX5_differenceBy 47 = .ok (.goto (-42), 3) := by decide +kernel
theorem dX5_differenceBy_50 : decode cX5_differenceBy 50 = .ok (.iload_n 3, 1) := by decide +kernel
theorem dX5_differenceBy_51 : decode cX5_differenceBy 51 = .ok (.invokestatic 51, 3) := by decide +kernel
theorem dX5_differenceBy_54 : decode cX5_differenceBy 54 = .ok (.ireturn, 1) := by decide +kernel
theorem dX6_init_0 : decode cX6_init 0 = .ok (.aload_n 0, 1) := by decide +kernel
theorem dX6_init_1 : decode cX6_init 1 = .ok (.invokespecial 3, 3) := by decide +kernel
theorem dX6_init_4 : decode cX6_init 4 = .ok (.aload_n 0, 1) := by decide +kernel
theorem dX6_init_5 : decode cX6_init 5 = .ok (.new 9, 3) := by decide +kernel
theorem dX6_init_8 : decode cX6_init 8 = .ok (.dup, 1) := by decide +kernel
