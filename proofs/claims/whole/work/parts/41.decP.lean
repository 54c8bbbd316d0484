theorem dX5_requireRange_0 : decode cX5_requireRange 0 = .ok (.iload_n 0, 1) := by decide +kernel
theorem dX5_requireRange_1 : decode cX5_requireRange 1 = .ok (.iload_n 1, 1) := by decide +kernel
theorem dX5_requireRange_2 : decode cX5_requireRange 2 = .ok (.if_icmp .lt 8, 3) := by decide +kernel
theorem dX5_requireRange_5 : decode cX5_requireRange 5 = .ok (.iload_n 0, 1) := by decide +kernel
theorem dX5_requireRange_6 : decode cX5_requireRange 6 = .ok (.iload_n 2, 1) := by decide +kernel
theorem dX5_requireRange_7 : decode cX5_requireRange 7 = .ok (.if_icmp .le 13, 3) := by decide +kernel
theorem dX5_requireRange_10 : decode cX5_requireRange 10 = .ok (.new 165, 3) := by decide +kernel
theorem dX5_requireRange_13 : decode cX5_requireRange 13 = .ok (.dup, 1) := by decide +kernel
theorem dX5_requireRange_14 : decode cX5_requireRange 14 = .ok (.ldc 230, 2) := by decide +kernel
theorem dX5_requireRange_16 : decode cX5_requireRange 16 = .ok (.invokespecial 169, 3) := by decide +kernel
theorem dX5_requireRange_19 : decode cX5_requireRange 19 = .ok (.athrow, 1) := by decide +kernel
theorem dX5_requireRange_20 : decode cX5_requireRange 20 = .ok (.return_, 1) := by decide +kernel
theorem dX5_requireKnown_0 : decode cX5_requireKnown 0 = .ok (.iload_n 0, 1) := by decide +kernel
theorem dX5_requireKnown_1 : decode cX5_requireKnown 1 = .ok (.ifCond .lt 8, 3) := by decide +kernel
theorem dX5_requireKnown_4 : decode cX5_requireKnown 4 = .ok (.iload_n 0, 1) := by decide +kernel
theorem dX5_requireKnown_5 : decode cX5_requireKnown 5 = .ok (.iload_n 1, 1) := by decide +kernel
theorem dX5_requireKnown_6 : decode cX5_requireKnown 6 = .ok (.if_icmp .lt 13, 3) := by decide +kernel
theorem dX5_requireKnown_9 : decode cX5_requireKnown 9 = .ok (.new 225, 3) := by decide +kernel
theorem dX5_requireKnown_12 : decode cX5_requireKnown 12 = .ok (.dup, 1) := by decide +kernel
theorem dX5_requireKnown_13 : decode cX5_requireKnown 13 = .ok (.ldc 232, 2) := by decide +kernel
theorem dX5_requireKnown_15 : decode cX5_requireKnown 15 = .ok (.invokespecial 229, 3) := by decide +kernel
theorem dX5_requireKnown_18 : decode cX5_requireKnown 18 = .ok (.athrow, 1) := by decide +kernel
theorem dX5_requireKnown_19 : decode cX5_requireKnown 19 = .ok (.return_, 1) := by decide +kernel
theorem dX5_requirePower_0 : decode cX5_requirePower 0 = .ok (.aload_n 0, 1) := by decide +kernel
theorem dX5_requirePower_1 : decode cX5_requirePower 1 = .ok (.getfield 57, 3) := by decide +kernel
theorem dX5_requirePower_4 : decode cX5_requirePower 4 = .ok (.ifCond .ne 13, 3) := by decide +kernel
theorem dX5_requirePower_7 : decode cX5_requirePower 7 = .ok (.new 141, 3) := by decide +kernel
theorem dX5_requirePower_10 : decode cX5_requirePower 10 = .ok (.dup, 1) := by decide +kernel
theorem dX5_requirePower_11 : decode cX5_requirePower 11 = .ok (.ldc 234, 2) := by decide +kernel
theorem dX5_requirePower_13 : decode cX5_requirePower 13 = .ok (.invokespecial 145, 3) := by decide +kernel
theorem dX5_requirePower_16 : decode cX5_requirePower 16 = .ok (.athrow, 1) := by decide +kernel
theorem dX5_requirePower_17 : decode cX5_requirePower 17 = .ok (.return_, 1) := by decide +kernel
theorem dX5_format_0 : decode cX5_format 0 = .ok (.iload_n 1, 1) := by decide +kernel
theorem dX5_format_1 : decode cX5_format 1 = .ok (.bipush 8, 2) := by decide +kernel
theorem dX5_format_3 : decode cX5_format 3 = .ok (.bipush 32, 2) := by decide +kernel
theorem dX5_format_5 : decode cX5_format 5 = .ok (.invokestatic 44, 3) := by decide +kernel
theorem dX5_format_8 : decode cX5_format 8 = .ok (.aload_n 0, 1) := by decide +kernel
theorem dX5_format_9 : decode cX5_format 9 = .ok (.getfield 12, 3) := by decide +kernel
theorem dX5_format_12 : decode cX5_format 12 = .ok (.iload_n 1, 1) := by decide +kernel
theorem dX5_format_13 : decode cX5_format 13 = .ok (.invokevirtual 48, 3) := by decide +kernel
theorem dX5_format_16 : decode cX5_format 16 = .ok (.aload_n 0, 1) := by decide +kernel
theorem dX5_format_17 : decode cX5_format 17 = .ok (.getfield 26, 3) := by decide +kernel
theorem dX5_format_20 : decode cX5_format 20 = .ok (.invokevirtual 52, 3) := by decide +kernel
theorem dX5_format_23 : decode cX5_format 23 = .ok (.aload_n 0, 1) := by decide +kernel
theorem dX5_format_24 : decode cX5_format 24 = .ok (.getfield 33, 3) := by decide +kernel
theorem dX5_format_27 : decode cX5_format 27 = .ok (.invokevirtual 55, 3) := by decide +kernel
theorem dX5_format_30 : decode cX5_format 30 = .ok (.aload_n 0, 1) := by decide +kernel
theorem dX5_format_31 : decode cX5_format 31 = .ok (.getfield 40, 3) := by decide +kernel
theorem dX5_format_34 : decode cX5_format 34 = .ok (.invokevirtual 56, 3) := by decide +kernel
theorem dX5_format_37 : decode cX5_format 37 = .ok (.aload_n 0, 1) := by decide +kernel
theorem dX5_format_38 : decode cX5_format 38 = .ok (.iconst 1, 1) := by decide +kernel
theorem dX5_format_39 : decode cX5_format 39 = .ok (.putfield 57, 3) := by decide +kernel
theorem dX5_format_42 : decode cX5_format 42 = .ok (.aload_n 0, 1) := by decide +kernel
theorem dX5_format_43 : decode cX5_format 43 = .ok (.iconst 2, 1) := by decide +kernel
theorem dX5_format_44 : decode cX5_format 44 = .ok (.putfield 61, 3) := by decide +kernel
theorem dX5_format_47 : decode cX5_format 47 = .ok (.aload_n 0, 1) := by decide +kernel
theorem dX5_format_48 : decode cX5_format 48 = .ok (.iconst 0, 1) := by decide +kernel
theorem dX5_format_49 : decode cX5_format 49 = .ok (.putfield 65, 3) := by decide +kernel
theorem dX5_format_52 : decode cX5_format 52 = .ok (.aload_n 0, 1) := by decide +kernel
theorem dX5_format_53 : decode cX5_format 53 = .ok (.lconst 0, 1) := by decide +kernel
theorem dX5_format_54 : decode cX5_format 54 = .ok (.putfield 68, 3) := by decide +kernel
theorem dX5_format_57 : decode cX5_format 57 = .ok (.aload_n 0, 1) := by decide +kernel
theorem dX5_format_58 : decode cX5_format 58 = .ok (.iconst 0, 1) := by decide +kernel
theorem dX5_format_59 : decode cX5_format 59 = .ok (.putfield 72, 3) := by decide +kernel
theorem dX5_format_62 : decode cX5_format 62 = .ok (.aload_n 0, 1) := by decide +kernel
theorem dX5_format_63 : decode cX5_format 63 = .ok (.iconst 0, 1) := by decide +kernel
theorem dX5_format_64 : decode cX5_format 64 = .ok (.putfield 75, 3) := by decide +kernel
theorem dX5_format_67 : decode cX5_format 67 = .ok (.aload_n 0, 1) := by decide +kernel
theorem dX5_format_68 : decode cX5_format 68 = .ok (.iconst 0, 1) := by decide +kernel
theorem dX5_format_69 : decode cX5_format 69 = .ok (.putfield 78, 3) := by decide +kernel
theorem dX5_format_72 : decode cX5_format 72 = .ok (.return_, 1) := by decide +kernel
theorem dX5_reserve_0 : decode cX5_reserve 0 = .ok (.iload_n 1, 1) := by decide +kernel
theorem dX5_reserve_1 : decode cX5_reserve 1 = .ok (.iconst 0, 1) := by decide +kernel
theorem dX5_reserve_2 : decode cX5_reserve 2 = .ok (.bipush 8, 2) := by decide +kernel
theorem dX5_reserve_4 : decode cX5_reserve 4 = .ok (.invokestatic 44, 3) := by decide +kernel
theorem dX5_reserve_7 : decode cX5_reserve 7 = .ok (.aload_n 0, 1) := by decide +kernel
theorem dX5_reserve_8 : decode cX5_reserve 8 = .ok (.invokevirtual 81, 3) := by decide +kernel
theorem dX5_reserve_11 : decode cX5_reserve 11 = .ok (.aload_n 0, 1) := by decide +kernel
theorem dX5_reserve_12 : decode cX5_reserve 12 = .ok (.iload_n 1, 1) := by decide +kernel
theorem dX5_reserve_13 : decode cX5_reserve 13 = .ok (.putfield 61, 3) := by decide +kernel
theorem dX5_reserve_16 : decode cX5_reserve 16 = .ok (.return_, 1) := by decide +kernel
theorem dX5_row_0 : decode cX5_row 0 = .ok (.iload_n 1, 1) := by decide +kernel
theorem dX5_row_1 : decode cX5_row 1 = .ok (.bipush 8, 2) := by decide +kernel
theorem dX5_row_3 : decode cX5_row 3 = .ok (.invokestatic 84, 3) := by decide +kernel
theorem dX5_row_6 : decode cX5_row 6 = .ok (.iload 4, 2) := by decide +kernel
theorem dX5_row_8 : decode cX5_row 8 = .ok (.iconst 1, 1) := by decide +kernel
theorem dX5_row_9 : decode cX5_row 9 = .ok (.bipush 8, 2) := by decide +kernel
theorem dX5_row_11 : decode cX5_row 11 = .ok (.invokestatic 44, 3) := by decide +kernel
theorem dX5_row_14 : decode cX5_row 14 = .ok (.aload_n 0, 1) := by decide +kernel
theorem dX5_row_15 : decode cX5_row 15 = .ok (.invokevirtual 81, 3) := by decide +kernel
theorem dX5_row_18 : decode cX5_row 18 = .ok (.aload_n 0, 1) := by decide +kernel
theorem dX5_row_19 : decode cX5_row 19 = .ok (.getfield 26, 3) := by decide +kernel
theorem dX5_row_22 : decode cX5_row 22 = .ok (.invokevirtual 88, 3) := by decide +kernel
theorem dX5_row_25 : decode cX5_row 25 = .ok (.ifCond .ne 22, 3) := by decide +kernel
theorem dX5_row_28 : decode cX5_row 28 = .ok (.aload_n 0, 1) := by decide +kernel
theorem dX5_row_29 : decode cX5_row 29 = .ok (.getfield 26, 3) := by decide +kernel
theorem dX5_row_32 : decode cX5_row 32 = .ok (.iconst 2, 1) := by decide +kernel
theorem dX5_row_33 : decode cX5_row 33 = .ok (.iload 4, 2) := by decide +kernel
theorem dX5_row_35 : decode cX5_row 35 = .ok (.iadd, 1) := by decide +kernel
theorem dX5_row_36 : decode cX5_row 36 = .ok (.invokevirtual 92, 3) := by decide +kernel
theorem dX5_row_39 : decode cX5_row 39 = .ok (.aload_n 0, 1) := by decide +kernel
theorem dX5_row_40 : decode cX5_row 40 = .ok (.iload_n 1, 1) := by decide +kernel
theorem dX5_row_41 : decode cX5_row 41 = .ok (.invokevirtual 96, 3) := by decide +kernel
theorem dX5_row_44 : decode cX5_row 44 = .ok (.if_icmp .le 13, 3) := by decide +kernel
theorem dX5_row_47 : decode cX5_row 47 = .ok (.new 99, 3) := by decide +kernel
theorem dX5_row_50 : decode cX5_row 50 = .ok (.dup, 1) := by decide +kernel
theorem dX5_row_51 : decode cX5_row 51 = .ok (.ldc 101, 2) := by decide +kernel
theorem dX5_row_53 : decode cX5_row 53 = .ok (.invokespecial 103, 3) := by decide +kernel
theorem dX5_row_56 : decode cX5_row 56 = .ok (.athrow, 1) := by decide +kernel
theorem dX5_row_57 : decode cX5_row 57 = .ok (.aload_n 0, 1) := by decide +kernel
theorem dX5_row_58 : decode cX5_row 58 = .ok (.getfield 33, 3) := by decide +kernel
theorem dX5_row_61 : decode cX5_row 61 = .ok (.invokevirtual 106, 3) := by decide +kernel
theorem dX5_row_64 : decode cX5_row 64 = .ok (.aload_n 0, 1) := by decide +kernel
theorem dX5_row_65 : decode cX5_row 65 = .ok (.getfield 26, 3) := by decide +kernel
theorem dX5_row_68 : decode cX5_row 68 = .ok (.invokevirtual 110, 3) := by decide +kernel
theorem dX5_row_71 : decode cX5_row 71 = .ok (.iadd, 1) := by decide +kernel
theorem dX5_row_72 : decode cX5_row 72 = .ok (.istore 5, 2) := by decide +kernel
theorem dX5_row_74 : decode cX5_row 74 = .ok (.aload_n 0, 1) := by decide +kernel
theorem dX5_row_75 : decode cX5_row 75 = .ok (.getfield 26, 3) := by decide +kernel
theorem dX5_row_78 : decode cX5_row 78 = .ok (.iload_n 1, 1) := by decide +kernel
theorem dX5_row_79 : decode cX5_row 79 = .ok (.lload_n 2, 1) := by decide +kernel
theorem dX5_row_80 : decode cX5_row 80 = .ok (.iload 4, 2) := by decide +kernel
theorem dX5_row_82 : decode cX5_row 82 = .ok (.invokevirtual 111, 3) := by decide +kernel
theorem dX5_row_85 : decode cX5_row 85 = .ok (.iload 5, 2) := by decide +kernel
theorem dX5_row_87 : decode cX5_row 87 = .ok (.ireturn, 1) := by decide +kernel
theorem dX5_sync_0 : decode cX5_sync 0 = .ok (.aload_n 0, 1) := by decide +kernel
theorem dX5_sync_1 : decode cX5_sync 1 = .ok (.invokevirtual 81, 3) := by decide +kernel
theorem dX5_sync_4 : decode cX5_sync 4 = .ok (.iconst 0, 1) := by decide +kernel
theorem dX5_sync_5 : decode cX5_sync 5 = .ok (.istore_n 1, 1) := by decide +kernel
theorem dX5_sync_6 : decode cX5_sync 6 = .ok (.iconst 0, 1) := by decide +kernel
theorem dX5_sync_7 : decode cX5_sync 7 = .ok (.istore_n 2, 1) := by decide +kernel
theorem dX5_sync_8 : decode cX5_sync 8 = .ok (.iload_n 2, 1) := by decide +kernel
theorem dX5_sync_9 : decode cX5_sync 9 = .ok (.bipush 100, 2) := by decide +kernel
theorem dX5_sync_11 : decode cX5_sync 11 = .ok (.if_icmp .ge 49, 3) := by decide +kernel
theorem dX5_sync_14 : decode cX5_sync 14 = .ok (.iload_n 1, 1) := by decide +kernel
theorem dX5_sync_15 : decode cX5_sync 15 = .ok (.aload_n 0, 1) := by decide +kernel
theorem dX5_sync_16 : decode cX5_sync 16 = .ok (.getfield 26, 3) := by decide +kernel
theorem dX5_sync_19 : decode cX5_sync 19 = .ok (.invokevirtual 110, 3) := by decide +kernel
theorem dX5_sync_22 : decode cX5_sync 22 = .ok (.if_icmp .ge 38, 3) := by decide +kernel
theorem dX5_sync_25 : decode cX5_sync 25 = .ok (.aload_n 0, 1) := by decide +kernel
theorem dX5_sync_26 : decode cX5_sync 26 = .ok (.iload_n 1, 1) := by decide +kernel
theorem dX5_sync_27 : decode cX5_sync 27 = .ok (.invokevirtual 115, 3) := by decide +kernel
theorem dX5_sync_30 : decode cX5_sync 30 = .ok (.istore_n 1, 1) := by decide +kernel
theorem dX5_sync_31 : decode cX5_sync 31 = .ok (.aload_n 0, 1) := by decide +kernel
theorem dX5_sync_32 : decode cX5_sync 32 = .ok (.aload_n 0, 1) := by decide +kernel
theorem dX5_sync_33 : decode cX5_sync 33 = .ok (.getfield 65, 3) := by decide +kernel
theorem dX5_sync_36 : decode cX5_sync 36 = .ok (.invokevirtual 118, 3) := by decide +kernel
theorem dX5_sync_39 : decode cX5_sync 39 = .ok (.ifCond .ne 5, 3) := by decide +kernel
theorem dX5_sync_42 : decode cX5_sync 42 = .ok (.iconst (-1), 1) := by decide +kernel
theorem dX5_sync_43 : decode cX5_sync 43 = .ok (.ireturn, 1) := by decide +kernel
theorem dX5_sync_44 : decode cX5_sync 44 = .ok (.aload_n 0, 1) := by decide +kernel
theorem dX5_sync_45 : decode cX5_sync 45 = .ok (.dup, 1) := by decide +kernel
theorem dX5_sync_46 : decode cX5_sync 46 = .ok (.getfield 65, 3) := by decide +kernel
theorem dX5_sync_49 : decode cX5_sync 49 = .ok (.iconst 1, 1) := by decide +kernel
theorem dX5_sync_50 : decode cX5_sync 50 = .ok (.iadd, 1) := by decide +kernel
theorem dX5_sync_51 : decode cX5_sync 51 = .ok (.putfield 65, 3) := by decide +kernel
theorem dX5_sync_54 : decode cX5_sync 54 = .ok (.iinc 2 1, 3) := by decide +kernel
theorem dX5_sync_57 : decode cX5_sync 57 = .ok (.goto (-49), 3) := by decide +kernel
theorem dX5_sync_60 : decode cX5_sync 60 = .ok (.aload_n 0, 1) := by decide +kernel
theorem dX5_sync_61 : decode cX5_sync 61 = .ok (.getfield 26, 3) := by decide +kernel
theorem dX5_sync_64 : decode cX5_sync 64 = .ok (.invokevirtual 52, 3) := by decide +kernel
theorem dX5_sync_67 : decode cX5_sync 67 = .ok (.aload_n 0, 1) := by decide +kernel
theorem dX5_sync_68 : decode cX5_sync 68 = .ok (.getfield 33, 3) := by decide +kernel
theorem dX5_sync_71 : decode cX5_sync 71 = .ok (.invokevirtual 106, 3) := by decide +kernel
theorem dX5_sync_74 : decode cX5_sync 74 = .ok (.ireturn, 1) := by decide +kernel
theorem dX5_save_0 : decode cX5_save 0 = .ok (.aload_n 0, 1) := by decide +kernel
theorem dX5_save_1 : decode cX5_save 1 = .ok (.invokevirtual 81, 3) := by decide +kernel
theorem dX5_save_4 : decode cX5_save 4 = .ok (.aload_n 0, 1) := by decide +kernel
theorem dX5_save_5 : decode cX5_save 5 = .ok (.getfield 72, 3) := by decide +kernel
theorem dX5_save_8 : decode cX5_save 8 = .ok (.iconst 1, 1) := by decide +kernel
theorem dX5_save_9 : decode cX5_save 9 = .ok (.iadd, 1) := by decide +kernel
theorem dX5_save_10 : decode cX5_save 10 = .ok (.istore_n 3, 1) := by decide +kernel
theorem dX5_save_11 : decode cX5_save 11 = .ok (.aload_n 0, 1) := by decide +kernel
theorem dX5_save_12 : decode cX5_save 12 = .ok (.getfield 19, 3) := by decide +kernel
theorem dX5_save_15 : decode cX5_save 15 = .ok (.iload_n 3, 1) := by decide +kernel
theorem dX5_save_16 : decode cX5_save 16 = .ok (.invokevirtual 122, 3) := by decide +kernel
theorem dX5_save_19 : decode cX5_save 19 = .ok (.aload_n 0, 1) := by decide +kernel
theorem dX5_save_20 : decode cX5_save 20 = .ok (.getfield 19, 3) := by decide +kernel
theorem dX5_save_23 : decode cX5_save 23 = .ok (.lload_n 1, 1) := by decide +kernel
theorem dX5_save_24 : decode cX5_save 24 = .ok (.bipush 8, 2) := by decide +kernel
theorem dX5_save_26 : decode cX5_save 26 = .ok (.invokevirtual 125, 3) := by decide +kernel
theorem dX5_save_29 : decode cX5_save 29 = .ok (.aload_n 0, 1) := by decide +kernel
theorem dX5_save_30 : decode cX5_save 30 = .ok (.getfield 19, 3) := by decide +kernel
theorem dX5_save_33 : decode cX5_save 33 = .ok (.invokevirtual 129, 3) := by decide +kernel
theorem dX5_save_36 : decode cX5_save 36 = .ok (.aload_n 0, 1) := by decide +kernel
theorem dX5_save_37 : decode cX5_save 37 = .ok (.aload_n 0, 1) := by decide +kernel
theorem dX5_save_38 : decode cX5_save 38 = .ok (.iload_n 3, 1) := by decide +kernel
theorem dX5_save_39 : decode cX5_save 39 = .ok (.invokevirtual 132, 3) := by decide +kernel
theorem dX5_save_42 : decode cX5_save 42 = .ok (.invokevirtual 118, 3) := by decide +kernel
theorem dX5_save_45 : decode cX5_save 45 = .ok (.ifCond .ne 5, 3) := by decide +kernel
theorem dX5_save_48 : decode cX5_save 48 = .ok (.iconst (-1), 1) := by decide +kernel
theorem dX5_save_49 : decode cX5_save 49 = .ok (.ireturn, 1) := by decide +kernel
theorem dX5_save_50 : decode cX5_save 50 = .ok (.aload_n 0, 1) := by decide +kernel
theorem dX5_save_51 : decode cX5_save 51 = .ok (.lload_n 1, 1) := by decide +kernel
theorem dX5_save_52 : decode cX5_save 52 = .ok (.putfield 68, 3) := by decide +kernel
theorem dX5_save_55 : decode cX5_save 55 = .ok (.aload_n 0, 1) := by decide +kernel
theorem dX5_save_56 : decode cX5_save 56 = .ok (.iload_n 3, 1) := by decide +kernel
theorem dX5_save_57 : decode cX5_save 57 = .ok (.putfield 72, 3) := by decide +kernel
theorem dX5_save_60 : decode cX5_save 60 = .ok (.iload_n 3, 1) := by decide +kernel
theorem dX5_save_61 : decode cX5_save 61 = .ok (.ireturn, 1) := by decide +kernel
theorem dX5_state_0 : decode cX5_state 0 = .ok (.aload_n 0, 1) := by decide +kernel
theorem dX5_state_1 : decode cX5_state 1 = .ok (.invokevirtual 81, 3) := by decide +kernel
theorem dX5_state_4 : decode cX5_state 4 = .ok (.aload_n 0, 1) := by decide +kernel
theorem dX5_state_5 : decode cX5_state 5 = .ok (.getfield 68, 3) := by decide +kernel
theorem dX5_state_8 : decode cX5_state 8 = .ok (.lreturn, 1) := by decide +kernel
theorem dX5_cut_0 : decode cX5_cut 0 = .ok (.iload_n 1, 1) := by decide +kernel
theorem dX5_cut_1 : decode cX5_cut 1 = .ok (.iconst 0, 1) := by decide +kernel
theorem dX5_cut_2 : decode cX5_cut 2 = .ok (.bipush 20, 2) := by decide +kernel
theorem dX5_cut_4 : decode cX5_cut 4 = .ok (.invokestatic 44, 3) := by decide +kernel
theorem dX5_cut_7 : decode cX5_cut 7 = .ok (.iload_n 2, 1) := by decide +kernel
theorem dX5_cut_8 : decode cX5_cut 8 = .ok (.iconst 0, 1) := by decide +kernel
theorem dX5_cut_9 : decode cX5_cut 9 = .ok (.sipush 511, 3) := by decide +kernel
theorem dX5_cut_12 : decode cX5_cut 12 = .ok (.invokestatic 44, 3) := by decide +kernel
theorem dX5_cut_15 : decode cX5_cut 15 = .ok (.aload_n 0, 1) := by decide +kernel
theorem dX5_cut_16 : decode cX5_cut 16 = .ok (.invokevirtual 81, 3) := by decide +kernel
theorem dX5_cut_19 : decode cX5_cut 19 = .ok (.aload_n 0, 1) := by decide +kernel
theorem dX5_cut_20 : decode cX5_cut 20 = .ok (.getfield 12, 3) := by decide +kernel
theorem dX5_cut_23 : decode cX5_cut 23 = .ok (.iload_n 1, 1) := by decide +kernel
theorem dX5_cut_24 : decode cX5_cut 24 = .ok (.iload_n 2, 1) := by decide +kernel
theorem dX5_cut_25 : decode cX5_cut 25 = .ok (.invokevirtual 135, 3) := by decide +kernel
theorem dX5_cut_28 : decode cX5_cut 28 = .ok (.return_, 1) := by decide +kernel
theorem dX5_start_0 : decode cX5_start 0 = .ok (.aload_n 0, 1) := by decide +kernel
theorem dX5_start_1 : decode cX5_start 1 = .ok (.getfield 12, 3) := by decide +kernel
theorem dX5_start_4 : decode cX5_start 4 = .ok (.invokevirtual 138, 3) := by decide +kernel
theorem dX5_start_7 : decode cX5_start 7 = .ok (.ifCond .ne 13, 3) := by decide +kernel
theorem dX5_start_10 : decode cX5_start 10 = .ok (.new 141, 3) := by decide +kernel
theorem dX5_start_13 : decode cX5_start 13 = .ok (.dup, 1) := by decide +kernel
theorem dX5_start_14 : decode cX5_start 14 = .ok (.ldc 143, 2) := by decide +kernel
theorem dX5_start_16 : decode cX5_start 16 = .ok (.invokespecial 145, 3) := by decide +kernel
theorem dX5_start_19 : decode cX5_start 19 = .ok (.athrow, 1) := by decide +kernel
theorem dX5_start_20 : decode cX5_start 20 = .ok (.aload_n 0, 1) := by decide +kernel
theorem dX5_start_21 : decode cX5_start 21 = .ok (.getfield 12, 3) := by decide +kernel
theorem dX5_start_24 : decode cX5_start 24 = .ok (.invokevirtual 146, 3) := by decide +kernel
theorem dX5_start_27 : decode cX5_start 27 = .ok (.aload_n 0, 1) := by decide +kernel
theorem dX5_start_28 : decode cX5_start 28 = .ok (.getfield 26, 3) := by decide +kernel
theorem dX5_start_31 : decode cX5_start 31 = .ok (.invokevirtual 52, 3) := by decide +kernel
theorem dX5_start_34 : decode cX5_start 34 = .ok (.aload_n 0, 1) := by decide +kernel
theorem dX5_start_35 : decode cX5_start 35 = .ok (.invokevirtual 149, 3) := by decide +kernel
theorem dX5_start_38 : decode cX5_start 38 = .ok (.aload_n 0, 1) := by decide +kernel
theorem dX5_start_39 : decode cX5_start 39 = .ok (.invokevirtual 152, 3) := by decide +kernel
theorem dX5_start_42 : decode cX5_start 42 = .ok (.aload_n 0, 1) := by decide +kernel
theorem dX5_start_43 : decode cX5_start 43 = .ok (.getfield 40, 3) := by decide +kernel
theorem dX5_start_46 : decode cX5_start 46 = .ok (.aload_n 0, 1) := by decide +kernel
theorem dX5_start_47 : decode cX5_start 47 = .ok (.getfield 33, 3) := by decide +kernel
theorem dX5_start_50 : decode cX5_start 50 = .ok (.invokevirtual 106, 3) := by decide +kernel
theorem dX5_start_53 : decode cX5_start 53 = .ok (.invokevirtual 155, 3) := by decide +kernel
theorem dX5_start_56 : decode cX5_start 56 = .ok (.aload_n 0, 1) := by decide +kernel
theorem dX5_start_57 : decode cX5_start 57 = .ok (.iconst 1, 1) := by decide +kernel
theorem dX5_start_58 : decode cX5_start 58 = .ok (.putfield 57, 3) := by decide +kernel
theorem dX5_start_61 : decode cX5_start 61 = .ok (.aload_n 0, 1) := by decide +kernel
theorem dX5_start_62 : decode cX5_start 62 = .ok (.getfield 33, 3) := by decide +kernel
theorem dX5_start_65 : decode cX5_start 65 = .ok (.invokevirtual 106, 3) := by decide +kernel
theorem dX5_start_68 : decode cX5_start 68 = .ok (.ireturn, 1) := by decide +kernel
theorem dX5_alter_0 : decode cX5_alter 0 = .ok (.iload_n 1, 1) := by decide +kernel
theorem dX5_alter_1 : decode cX5_alter 1 = .ok (.iconst 2, 1) := by decide +kernel
theorem dX5_alter_2 : decode cX5_alter 2 = .ok (.invokestatic 84, 3) := by decide +kernel
theorem dX5_alter_5 : decode cX5_alter 5 = .ok (.iload_n 2, 1) := by decide +kernel
theorem dX5_alter_6 : decode cX5_alter 6 = .ok (.aload_n 0, 1) := by decide +kernel
theorem dX5_alter_7 : decode cX5_alter 7 = .ok (.getfield 12, 3) := by decide +kernel
theorem dX5_alter_10 : decode cX5_alter 10 = .ok (.invokevirtual 158, 3) := by decide +kernel
theorem dX5_alter_13 : decode cX5_alter 13 = .ok (.invokestatic 84, 3) := by decide +kernel
theorem dX5_alter_16 : decode cX5_alter 16 = .ok (.iload_n 3, 1) := by decide +kernel
theorem dX5_alter_17 : decode cX5_alter 17 = .ok (.sipush 512, 3) := by decide +kernel
theorem dX5_alter_20 : decode cX5_alter 20 = .ok (.invokestatic 84, 3) := by decide +kernel
theorem dX5_alter_23 : decode cX5_alter 23 = .ok (.iload 4, 2) := by decide +kernel
theorem dX5_alter_25 : decode cX5_alter 25 = .ok (.iconst 1, 1) := by decide +kernel
theorem dX5_alter_26 : decode cX5_alter 26 = .ok (.sipush 255, 3) := by decide +kernel
theorem dX5_alter_29 : decode cX5_alter 29 = .ok (.invokestatic 44, 3) := by decide +kernel
theorem dX5_alter_32 : decode cX5_alter 32 = .ok (.aload_n 0, 1) := by decide +kernel
theorem dX5_alter_33 : decode cX5_alter 33 = .ok (.getfield 12, 3) := by decide +kernel
theorem dX5_alter_36 : decode cX5_alter 36 = .ok (.iload_n 1, 1) := by decide +kernel
theorem dX5_alter_37 : decode cX5_alter 37 = .ok (.iload_n 2, 1) := by decide +kernel
theorem dX5_alter_38 : decode cX5_alter 38 = .ok (.iload_n 3, 1) := by decide +kernel
theorem dX5_alter_39 : decode cX5_alter 39 = .ok (.iload 4, 2) := by decide +kernel
theorem dX5_alter_41 : decode cX5_alter 41 = .ok (.invokevirtual 161, 3) := by decide +kernel
theorem dX5_alter_44 : decode cX5_alter 44 = .ok (.return_, 1) := by decide +kernel
theorem dX5_read_0 : decode cX5_read 0 = .ok (.aload_n 0, 1) := by decide +kernel
theorem dX5_read_1 : decode cX5_read 1 = .ok (.invokevirtual 81, 3) := by decide +kernel
theorem dX5_read_4 : decode cX5_read 4 = .ok (.iload_n 1, 1) := by decide +kernel
theorem dX5_read_5 : decode cX5_read 5 = .ok (.aload_n 0, 1) := by decide +kernel
theorem dX5_read_6 : decode cX5_read 6 = .ok (.getfield 33, 3) := by decide +kernel
theorem dX5_read_9 : decode cX5_read 9 = .ok (.invokevirtual 106, 3) := by decide +kernel
theorem dX5_read_12 : decode cX5_read 12 = .ok (.invokestatic 84, 3) := by decide +kernel
theorem dX5_read_15 : decode cX5_read 15 = .ok (.iload_n 2, 1) := by decide +kernel
theorem dX5_read_16 : decode cX5_read 16 = .ok (.ifCond .ge 13, 3) := by decide +kernel
theorem dX5_read_19 : decode cX5_read 19 = .ok (.new 165, 3) := by decide +kernel
theorem dX5_read_22 : decode cX5_read 22 = .ok (.dup, 1) := by decide +kernel
theorem dX5_read_23 : decode cX5_read 23 = .ok (.ldc 167, 2) := by decide +kernel
theorem dX5_read_25 : decode cX5_read 25 = .ok (.invokespecial 169, 3) := by decide +kernel
theorem dX5_read_28 : decode cX5_read 28 = .ok (.athrow, 1) := by decide +kernel
theorem dX5_read_29 : decode cX5_read 29 = .ok (.aload_n 0, 1) := by decide +kernel
theorem dX5_read_30 : decode cX5_read 30 = .ok (.getfield 33, 3) := by decide +kernel
theorem dX5_read_33 : decode cX5_read 33 = .ok (.iload_n 1, 1) := by decide +kernel
theorem dX5_read_34 : decode cX5_read 34 = .ok (.invokevirtual 170, 3) := by decide +kernel
theorem dX5_read_37 : decode cX5_read 37 = .ok (.istore_n 3, 1) := by decide +kernel
theorem dX5_read_38 : decode cX5_read 38 = .ok (.aload_n 0, 1) := by decide +kernel
theorem dX5_read_39 : decode cX5_read 39 = .ok (.getfield 12, 3) := by decide +kernel
theorem dX5_read_42 : decode cX5_read 42 = .ok (.iload_n 3, 1) := by decide +kernel
theorem dX5_read_43 : decode cX5_read 43 = .ok (.invokevirtual 173, 3) := by decide +kernel
theorem dX5_read_46 : decode cX5_read 46 = .ok (.istore 4, 2) := by decide +kernel
theorem dX5_read_48 : decode cX5_read 48 = .ok (.iload 4, 2) := by decide +kernel
theorem dX5_read_50 : decode cX5_read 50 = .ok (.iconst (-1), 1) := by decide +kernel
theorem dX5_read_51 : decode cX5_read 51 = .ok (.if_icmp .ne 6, 3) := by decide +kernel
theorem dX5_read_54 : decode cX5_read 54 = .ok (.bipush (-2), 2) := by decide +kernel
theorem dX5_read_56 : decode cX5_read 56 = .ok (.ireturn, 1) := by decide +kernel
theorem dX5_read_57 : decode cX5_read 57 = .ok (.aload_n 0, 1) := by decide +kernel
theorem dX5_read_58 : decode cX5_read 58 = .ok (.iload 4, 2) := by decide +kernel
theorem dX5_read_60 : decode cX5_read 60 = .ok (.invokevirtual 176, 3) := by decide +kernel
theorem dX5_read_63 : decode cX5_read 63 = .ok (.iload_n 2, 1) := by decide +kernel
theorem dX5_read_64 : decode cX5_read 64 = .ok (.aload_n 0, 1) := by decide +kernel
theorem dX5_read_65 : decode cX5_read 65 = .ok (.getfield 33, 3) := by decide +kernel
theorem dX5_read_68 : decode cX5_read 68 = .ok (.iload_n 1, 1) := by decide +kernel
theorem dX5_read_69 : decode cX5_read 69 = .ok (.invokevirtual 179, 3) := by decide +kernel
theorem dX5_read_72 : decode cX5_read 72 = .ok (.if_icmp .lt 5, 3) := by decide +kernel
theorem dX5_read_75 : decode cX5_read 75 = .ok (.iconst (-1), 1) := by decide +kernel
theorem dX5_read_76 : decode cX5_read 76 = .ok (.ireturn, 1) := by decide +kernel
theorem dX5_read_77 : decode cX5_read 77 = .ok (.aload_n 0, 1) := by decide +kernel
theorem dX5_read_78 : decode cX5_read 78 = .ok (.getfield 12, 3) := by decide +kernel
theorem dX5_read_81 : decode cX5_read 81 = .ok (.iload 4, 2) := by decide +kernel
theorem dX5_read_83 : decode cX5_read 83 = .ok (.iload_n 3, 1) := by decide +kernel
theorem dX5_read_84 : decode cX5_read 84 = .ok (.aload_n 0, 1) := by decide +kernel
theorem dX5_read_85 : decode cX5_read 85 = .ok (.getfield 33, 3) := by decide +kernel
theorem dX5_read_88 : decode cX5_read 88 = .ok (.iload_n 1, 1) := by decide +kernel
theorem dX5_read_89 : decode cX5_read 89 = .ok (.invokevirtual 182, 3) := by decide +kernel
theorem dX5_read_92 : decode cX5_read 92 = .ok (.iconst 2, 1) := by decide +kernel
theorem dX5_read_93 : decode cX5_read 93 = .ok (.iadd, 1) := by decide +kernel
theorem dX5_read_94 : decode cX5_read 94 = .ok (.iload_n 2, 1) := by decide +kernel
theorem dX5_read_95 : decode cX5_read 95 = .ok (.iadd, 1) := by decide +kernel
theorem dX5_read_96 : decode cX5_read 96 = .ok (.invokevirtual 185, 3) := by decide +kernel
theorem dX5_read_99 : decode cX5_read 99 = .ok (.ireturn, 1) := by decide +kernel
theorem dX5_kind_0 : decode cX5_kind 0 = .ok (.aload_n 0, 1) := by decide +kernel
theorem dX5_kind_1 : decode cX5_kind 1 = .ok (.invokevirtual 81, 3) := by decide +kernel
theorem dX5_kind_4 : decode cX5_kind 4 = .ok (.iload_n 1, 1) := by decide +kernel
theorem dX5_kind_5 : decode cX5_kind 5 = .ok (.aload_n 0, 1) := by decide +kernel
theorem dX5_kind_6 : decode cX5_kind 6 = .ok (.getfield 33, 3) := by decide +kernel
theorem dX5_kind_9 : decode cX5_kind 9 = .ok (.invokevirtual 106, 3) := by decide +kernel
theorem dX5_kind_12 : decode cX5_kind 12 = .ok (.invokestatic 84, 3) := by decide +kernel
theorem dX5_kind_15 : decode cX5_kind 15 = .ok (.aload_n 0, 1) := by decide +kernel
theorem dX5_kind_16 : decode cX5_kind 16 = .ok (.getfield 33, 3) := by decide +kernel
theorem dX5_kind_19 : decode cX5_kind 19 = .ok (.iload_n 1, 1) := by decide +kernel
theorem dX5_kind_20 : decode cX5_kind 20 = .ok (.invokevirtual 170, 3) := by decide +kernel
theorem dX5_kind_23 : decode cX5_kind 23 = .ok (.istore_n 2, 1) := by decide +kernel
theorem dX5_kind_24 : decode cX5_kind 24 = .ok (.aload_n 0, 1) := by decide +kernel
theorem dX5_kind_25 : decode cX5_kind 25 = .ok (.getfield 12, 3) := by decide +kernel
theorem dX5_kind_28 : decode cX5_kind 28 = .ok (.iload_n 2, 1) := by decide +kernel
theorem dX5_kind_29 : decode cX5_kind 29 = .ok (.invokevirtual 173, 3) := by decide +kernel
theorem dX5_kind_32 : decode cX5_kind 32 = .ok (.istore_n 3, 1) := by decide +kernel
theorem dX5_kind_33 : decode cX5_kind 33 = .ok (.iload_n 3, 1) := by decide +kernel
theorem dX5_kind_34 : decode cX5_kind 34 = .ok (.iconst (-1), 1) := by decide +kernel
theorem dX5_kind_35 : decode cX5_kind 35 = .ok (.if_icmp .ne 6, 3) := by decide +kernel
theorem dX5_kind_38 : decode cX5_kind 38 = .ok (.bipush (-2), 2) := by decide +kernel
theorem dX5_kind_40 : decode cX5_kind 40 = .ok (.ireturn, 1) := by decide +kernel
theorem dX5_kind_41 : decode cX5_kind 41 = .ok (.aload_n 0, 1) := by decide +kernel
theorem dX5_kind_42 : decode cX5_kind 42 = .ok (.iload_n 3, 1) := by decide +kernel
theorem dX5_kind_43 : decode cX5_kind 43 = .ok (.invokevirtual 176, 3) := by decide +kernel
theorem dX5_kind_46 : decode cX5_kind 46 = .ok (.aload_n 0, 1) := by decide +kernel
theorem dX5_kind_47 : decode cX5_kind 47 = .ok (.getfield 12, 3) := by decide +kernel
theorem dX5_kind_50 : decode cX5_kind 50 = .ok (.iload_n 3, 1) := by decide +kernel
theorem dX5_kind_51 : decode cX5_kind 51 = .ok (.iload_n 2, 1) := by decide +kernel
theorem dX5_kind_52 : decode cX5_kind 52 = .ok (.aload_n 0, 1) := by decide +kernel
theorem dX5_kind_53 : decode cX5_kind 53 = .ok (.getfield 33, 3) := by decide +kernel
theorem dX5_kind_56 : decode cX5_kind 56 = .ok (.iload_n 1, 1) := by decide +kernel
theorem dX5_kind_57 : decode cX5_kind 57 = .ok (.invokevirtual 182, 3) := by decide +kernel
theorem dX5_kind_60 : decode cX5_kind 60 = .ok (.invokevirtual 185, 3) := by decide +kernel
theorem dX5_kind_63 : decode cX5_kind 63 = .ok (.ireturn, 1) := by decide +kernel
theorem dX5_extract_0 : decode cX5_extract 0 = .ok (.aload_n 0, 1) := by decide +kernel
theorem dX5_extract_1 : decode cX5_extract 1 = .ok (.invokevirtual 81, 3) := by decide +kernel
theorem dX5_extract_4 : decode cX5_extract 4 = .ok (.iload_n 1, 1) := by decide +kernel
theorem dX5_extract_5 : decode cX5_extract 5 = .ok (.ifCond .lt 19, 3) := by decide +kernel
theorem dX5_extract_8 : decode cX5_extract 8 = .ok (.iload_n 1, 1) := by decide +kernel
theorem dX5_extract_9 : decode cX5_extract 9 = .ok (.iload_n 2, 1) := by decide +kernel
theorem dX5_extract_10 : decode cX5_extract 10 = .ok (.if_icmp .gt 14, 3) := by decide +kernel
theorem dX5_extract_13 : decode cX5_extract 13 = .ok (.iload_n 2, 1) := by decide +kernel
theorem dX5_extract_14 : decode cX5_extract 14 = .ok (.aload_n 0, 1) := by decide +kernel
theorem dX5_extract_15 : decode cX5_extract 15 = .ok (.getfield 33, 3) := by decide +kernel
theorem dX5_extract_18 : decode cX5_extract 18 = .ok (.invokevirtual 106, 3) := by decide +kernel
theorem dX5_extract_21 : decode cX5_extract 21 = .ok (.if_icmp .le 13, 3) := by decide +kernel
theorem dX5_extract_24 : decode cX5_extract 24 = .ok (.new 165, 3) := by decide +kernel
theorem dX5_extract_27 : decode cX5_extract 27 = .ok (.dup, 1) := by decide +kernel
theorem dX5_extract_28 : decode cX5_extract 28 = .ok (.ldc 189, 2) := by decide +kernel
theorem dX5_extract_30 : decode cX5_extract 30 = .ok (.invokespecial 169, 3) := by decide +kernel
theorem dX5_extract_33 : decode cX5_extract 33 = .ok (.athrow, 1) := by decide +kernel
theorem dX5_extract_34 : decode cX5_extract 34 = .ok (.iconst 0, 1) := by decide +kernel
theorem dX5_extract_35 : decode cX5_extract 35 = .ok (.istore_n 3, 1) := by decide +kernel
theorem dX5_extract_36 : decode cX5_extract 36 = .ok (.iconst (-1), 1) := by decide +kernel
theorem dX5_extract_37 : decode cX5_extract 37 = .ok (.istore 4, 2) := by decide +kernel
theorem dX5_extract_39 : decode cX5_extract 39 = .ok (.iconst (-1), 1) := by decide +kernel
theorem dX5_extract_40 : decode cX5_extract 40 = .ok (.istore 5, 2) := by decide +kernel
theorem dX5_extract_42 : decode cX5_extract 42 = .ok (.iload_n 1, 1) := by decide +kernel
theorem dX5_extract_43 : decode cX5_extract 43 = .ok (.istore 6, 2) := by decide +kernel
theorem dX5_extract_45 : decode cX5_extract 45 = .ok (.iload 6, 2) := by decide +kernel
theorem dX5_extract_47 : decode cX5_extract 47 = .ok (.iload_n 2, 1) := by decide +kernel
theorem dX5_extract_48 : decode cX5_extract 48 = .ok (.if_icmp .ge 67, 3) := by decide +kernel
theorem dX5_extract_51 : decode cX5_extract 51 = .ok (.aload_n 0, 1) := by decide +kernel
theorem dX5_extract_52 : decode cX5_extract 52 = .ok (.getfield 33, 3) := by decide +kernel
theorem dX5_extract_55 : decode cX5_extract 55 = .ok (.iload 6, 2) := by decide +kernel
theorem dX5_extract_57 : decode cX5_extract 57 = .ok (.invokevirtual 170, 3) := by decide +kernel
theorem dX5_extract_60 : decode cX5_extract 60 = .ok (.iload 4, 2) := by decide +kernel
theorem dX5_extract_62 : decode cX5_extract 62 = .ok (.if_icmp .eq 25, 3) := by decide +kernel
theorem dX5_extract_65 : decode cX5_extract 65 = .ok (.aload_n 0, 1) := by decide +kernel
theorem dX5_extract_66 : decode cX5_extract 66 = .ok (.getfield 33, 3) := by decide +kernel
theorem dX5_extract_69 : decode cX5_extract 69 = .ok (.iload 6, 2) := by decide +kernel
theorem dX5_extract_71 : decode cX5_extract 71 = .ok (.invokevirtual 170, 3) := by decide +kernel
theorem dX5_extract_74 : decode cX5_extract 74 = .ok (.istore 4, 2) := by decide +kernel
theorem dX5_extract_76 : decode cX5_extract 76 = .ok (.aload_n 0, 1) := by decide +kernel
theorem dX5_extract_77 : decode cX5_extract 77 = .ok (.getfield 12, 3) := by decide +kernel
theorem dX5_extract_80 : decode cX5_extract 80 = .ok (.iload 4, 2) := by decide +kernel
theorem dX5_extract_82 : decode cX5_extract 82 = .ok (.invokevirtual 173, 3) := by decide +kernel
theorem dX5_extract_85 : decode cX5_extract 85 = .ok (.istore 5, 2) := by decide +kernel
theorem dX5_extract_87 : decode cX5_extract 87 = .ok (.iload 5, 2) := by decide +kernel
theorem dX5_extract_89 : decode cX5_extract 89 = .ok (.iconst (-1), 1) := by decide +kernel
theorem dX5_extract_90 : decode cX5_extract 90 = .ok (.if_icmp .eq 19, 3) := by decide +kernel
theorem dX5_extract_93 : decode cX5_extract 93 = .ok (.aload_n 0, 1) := by decide +kernel
theorem dX5_extract_94 : decode cX5_extract 94 = .ok (.iload 5, 2) := by decide +kernel
theorem dX5_extract_96 : decode cX5_extract 96 = .ok (.invokevirtual 176, 3) := by decide +kernel
theorem dX5_extract_99 : decode cX5_extract 99 = .ok (.aload_n 0, 1) := by decide +kernel
theorem dX5_extract_100 : decode cX5_extract 100 = .ok (.iload_n 3, 1) := by decide +kernel
theorem dX5_extract_101 : decode cX5_extract 101 = .ok (.iload 6, 2) := by decide +kernel
theorem dX5_extract_103 : decode cX5_extract 103 = .ok (.iload 5, 2) := by decide +kernel
theorem dX5_extract_105 : decode cX5_extract 105 = .ok (.invokevirtual 191, 3) := by decide +kernel
theorem dX5_extract_108 : decode cX5_extract 108 = .ok (.istore_n 3, 1) := by decide +kernel
theorem dX5_extract_109 : decode cX5_extract 109 = .ok (.iinc 6 1, 3) := by decide +kernel
theorem dX5_extract_112 : decode cX5_extract 112 = .ok (.goto (-67), 3) := by decide +kernel
theorem dX5_extract_115 : decode cX5_extract 115 = .ok (.iload_n 3, 1) := by decide +kernel
theorem dX5_extract_116 : decode cX5_extract 116 = .ok (.ireturn, 1) := by decide +kernel
theorem dX5_line_0 : decode cX5_line 0 = .ok (.aload_n 0, 1) := by decide +kernel
theorem dX5_line_1 : decode cX5_line 1 = .ok (.invokevirtual 81, 3) := by decide +kernel
theorem dX5_line_4 : decode cX5_line 4 = .ok (.aload_n 0, 1) := by decide +kernel
theorem dX5_line_5 : decode cX5_line 5 = .ok (.getfield 40, 3) := by decide +kernel
theorem dX5_line_8 : decode cX5_line 8 = .ok (.invokevirtual 194, 3) := by decide +kernel
theorem dX5_line_11 : decode cX5_line 11 = .ok (.iload_n 1, 1) := by decide +kernel
theorem dX5_line_12 : decode cX5_line 12 = .ok (.if_icmp .ne 13, 3) := by decide +kernel
theorem dX5_line_15 : decode cX5_line 15 = .ok (.new 141, 3) := by decide +kernel
theorem dX5_line_18 : decode cX5_line 18 = .ok (.dup, 1) := by decide +kernel
theorem dX5_line_19 : decode cX5_line 19 = .ok (.ldc 197, 2) := by decide +kernel
theorem dX5_line_21 : decode cX5_line 21 = .ok (.invokespecial 145, 3) := by decide +kernel
theorem dX5_line_24 : decode cX5_line 24 = .ok (.athrow, 1) := by decide +kernel
theorem dX5_line_25 : decode cX5_line 25 = .ok (.aload_n 0, 1) := by decide +kernel
theorem dX5_line_26 : decode cX5_line 26 = .ok (.getfield 40, 3) := by decide +kernel
theorem dX5_line_29 : decode cX5_line 29 = .ok (.iload_n 1, 1) := by decide +kernel
theorem dX5_line_30 : decode cX5_line 30 = .ok (.invokevirtual 199, 3) := by decide +kernel
theorem dX5_line_33 : decode cX5_line 33 = .ok (.return_, 1) := by decide +kernel
theorem dX5_send_0 : decode cX5_send 0 = .ok (.iload_n 1, 1) := by decide +kernel
theorem dX5_send_1 : decode cX5_send 1 = .ok (.iconst 0, 1) := by decide +kernel
theorem dX5_send_2 : decode cX5_send 2 = .ok (.bipush 100, 2) := by decide +kernel
theorem dX5_send_4 : decode cX5_send 4 = .ok (.invokestatic 44, 3) := by decide +kernel
theorem dX5_send_7 : decode cX5_send 7 = .ok (.aload_n 0, 1) := by decide +kernel
theorem dX5_send_8 : decode cX5_send 8 = .ok (.invokevirtual 81, 3) := by decide +kernel
theorem dX5_send_11 : decode cX5_send 11 = .ok (.aload_n 0, 1) := by decide +kernel
theorem dX5_send_12 : decode cX5_send 12 = .ok (.getfield 40, 3) := by decide +kernel
theorem dX5_send_15 : decode cX5_send 15 = .ok (.iload_n 1, 1) := by decide +kernel
theorem dX5_send_16 : decode cX5_send 16 = .ok (.aload_n 0, 1) := by decide +kernel
theorem dX5_send_17 : decode cX5_send 17 = .ok (.getfield 33, 3) := by decide +kernel
theorem dX5_send_20 : decode cX5_send 20 = .ok (.invokevirtual 106, 3) := by decide +kernel
theorem dX5_send_23 : decode cX5_send 23 = .ok (.invokevirtual 203, 3) := by decide +kernel
theorem dX5_send_26 : decode cX5_send 26 = .ok (.aload_n 0, 1) := by decide +kernel
theorem dX5_send_27 : decode cX5_send 27 = .ok (.getfield 40, 3) := by decide +kernel
theorem dX5_send_30 : decode cX5_send 30 = .ok (.invokevirtual 206, 3) := by decide +kernel
theorem dX5_send_33 : decode cX5_send 33 = .ok (.ireturn, 1) := by decide +kernel
theorem dX5_gap_0 : decode cX5_gap 0 = .ok (.aload_n 0, 1) := by decide +kernel
theorem dX5_gap_1 : decode cX5_gap 1 = .ok (.invokevirtual 81, 3) := by decide +kernel
theorem dX5_gap_4 : decode cX5_gap 4 = .ok (.iload_n 1, 1) := by decide +kernel
theorem dX5_gap_5 : decode cX5_gap 5 = .ok (.ifCond .ge 13, 3) := by decide +kernel
theorem dX5_gap_8 : decode cX5_gap 8 = .ok (.new 165, 3) := by decide +kernel
theorem dX5_gap_11 : decode cX5_gap 11 = .ok (.dup, 1) := by decide +kernel
theorem dX5_gap_12 : decode cX5_gap 12 = .ok (.ldc 209, 2) := by decide +kernel
theorem dX5_gap_14 : decode cX5_gap 14 = .ok (.invokespecial 169, 3) := by decide +kernel
theorem dX5_gap_17 : decode cX5_gap 17 = .ok (.athrow, 1) := by decide +kernel
theorem dX5_gap_18 : decode cX5_gap 18 = .ok (.aload_n 0, 1) := by decide +kernel
theorem dX5_gap_19 : decode cX5_gap 19 = .ok (.getfield 40, 3) := by decide +kernel
theorem dX5_gap_22 : decode cX5_gap 22 = .ok (.iload_n 1, 1) := by decide +kernel
theorem dX5_gap_23 : decode cX5_gap 23 = .ok (.invokevirtual 211, 3) := by decide +kernel
theorem dX5_gap_26 : decode cX5_gap 26 = .ok (.istore_n 2, 1) := by decide +kernel
theorem dX5_gap_27 : decode cX5_gap 27 = .ok (.iload_n 2, 1) := by decide +kernel
theorem dX5_gap_28 : decode cX5_gap 28 = .ok (.iconst (-1), 1) := by decide +kernel
theorem dX5_gap_29 : decode cX5_gap 29 = .ok (.if_icmp .ne 5, 3) := by decide +kernel
theorem dX5_gap_32 : decode cX5_gap 32 = .ok (.iconst (-1), 1) := by decide +kernel
theorem dX5_gap_33 : decode cX5_gap 33 = .ok (.ireturn, 1) := by decide +kernel
theorem dX5_gap_34 : decode cX5_gap 34 = .ok (.sipush 10000, 3) := by decide +kernel
theorem dX5_gap_37 : decode cX5_gap 37 = .ok (.iload_n 2, 1) := by decide +kernel
theorem dX5_gap_38 : decode cX5_gap 38 = .ok (.imul, 1) := by decide +kernel
theorem dX5_gap_39 : decode cX5_gap 39 = .ok (.aload_n 0, 1) := by decide +kernel
theorem dX5_gap_40 : decode cX5_gap 40 = .ok (.getfield 40, 3) := by decide +kernel
theorem dX5_gap_43 : decode cX5_gap 43 = .ok (.iload_n 2, 1) := by decide +kernel
theorem dX5_gap_44 : decode cX5_gap 44 = .ok (.invokevirtual 214, 3) := by decide +kernel
theorem dX5_gap_47 : decode cX5_gap 47 = .ok (.iadd, 1) := by decide +kernel
theorem dX5_gap_48 : decode cX5_gap 48 = .ok (.ireturn, 1) := by decide +kernel
theorem dX5_fill_0 : decode cX5_fill 0 = .ok (.iload_n 1, 1) := by decide +kernel
theorem dX5_fill_1 : decode cX5_fill 1 = .ok (.iconst 0, 1) := by decide +kernel
theorem dX5_fill_2 : decode cX5_fill 2 = .ok (.bipush 100, 2) := by decide +kernel
theorem dX5_fill_4 : decode cX5_fill 4 = .ok (.invokestatic 44, 3) := by decide +kernel
theorem dX5_fill_7 : decode cX5_fill 7 = .ok (.aload_n 0, 1) := by decide +kernel
theorem dX5_fill_8 : decode cX5_fill 8 = .ok (.invokevirtual 81, 3) := by decide +kernel
theorem dX5_fill_11 : decode cX5_fill 11 = .ok (.aload_n 0, 1) := by decide +kernel
theorem dX5_fill_12 : decode cX5_fill 12 = .ok (.getfield 40, 3) := by decide +kernel
theorem dX5_fill_15 : decode cX5_fill 15 = .ok (.invokevirtual 194, 3) := by decide +kernel
theorem dX5_fill_18 : decode cX5_fill 18 = .ok (.ifCond .ne 13, 3) := by decide +kernel
theorem dX5_fill_21 : decode cX5_fill 21 = .ok (.new 141, 3) := by decide +kernel
theorem dX5_fill_24 : decode cX5_fill 24 = .ok (.dup, 1) := by decide +kernel
theorem dX5_fill_25 : decode cX5_fill 25 = .ok (.ldc 217, 2) := by decide +kernel
theorem dX5_fill_27 : decode cX5_fill 27 = .ok (.invokespecial 145, 3) := by decide +kernel
theorem dX5_fill_30 : decode cX5_fill 30 = .ok (.athrow, 1) := by decide +kernel
theorem dX5_fill_31 : decode cX5_fill 31 = .ok (.aload_n 0, 1) := by decide +kernel
theorem dX5_fill_32 : decode cX5_fill 32 = .ok (.getfield 40, 3) := by decide +kernel
theorem dX5_fill_35 : decode cX5_fill 35 = .ok (.iload_n 1, 1) := by decide +kernel
theorem dX5_fill_36 : decode cX5_fill 36 = .ok (.invokevirtual 219, 3) := by decide +kernel
theorem dX5_fill_39 : decode cX5_fill 39 = .ok (.ireturn, 1) := by decide +kernel
theorem dX5_count_0 : decode cX5_count 0 = .ok (.aload_n 0, 1) := by decide +kernel
theorem dX5_count_1 : decode cX5_count 1 = .ok (.invokevirtual 81, 3) := by decide +kernel
theorem dX5_count_4 : decode cX5_count 4 = .ok (.iload_n 1, 1) := by decide +kernel
theorem dX5_count_5 : decode cX5_count 5 = .ok (.tableswitch 99 0 7 #[47, 55, 63, 68, 73, 78, 83, 91], 47) := by decide +kernel
theorem dX5_count_52 : decode cX5_count 52 = .ok (.aload_n 0, 1) := by decide +kernel
theorem dX5_count_53 : decode cX5_count 53 = .ok (.getfield 33, 3) := by decide +kernel
theorem dX5_count_56 : decode cX5_count 56 = .ok (.invokevirtual 106, 3) := by decide +kernel
theorem dX5_count_59 : decode cX5_count 59 = .ok (.ireturn, 1) := by decide +kernel
theorem dX5_count_60 : decode cX5_count 60 = .ok (.aload_n 0, 1) := by decide +kernel
theorem dX5_count_61 : decode cX5_count 61 = .ok (.getfield 26, 3) := by decide +kernel
theorem dX5_count_64 : decode cX5_count 64 = .ok (.invokevirtual 110, 3) := by decide +kernel
theorem dX5_count_67 : decode cX5_count 67 = .ok (.ireturn, 1) := by decide +kernel
theorem dX5_count_68 : decode cX5_count 68 = .ok (.aload_n 0, 1) := by decide +kernel
theorem dX5_count_69 : decode cX5_count 69 = .ok (.getfield 75, 3) := by decide +kernel
theorem dX5_count_72 : decode cX5_count 72 = .ok (.ireturn, 1) := by decide +kernel
theorem dX5_count_73 : decode cX5_count 73 = .ok (.aload_n 0, 1) := by decide +kernel
theorem dX5_count_74 : decode cX5_count 74 = .ok (.getfield 78, 3) := by decide +kernel
theorem dX5_count_77 : decode cX5_count 77 = .ok (.ireturn, 1) := by decide +kernel
theorem dX5_count_78 : decode cX5_count 78 = .ok (.aload_n 0, 1) := by decide +kernel
theorem dX5_count_79 : decode cX5_count 79 = .ok (.getfield 65, 3) := by decide +kernel
theorem dX5_count_82 : decode cX5_count 82 = .ok (.ireturn, 1) := by decide +kernel
theorem dX5_count_83 : decode cX5_count 83 = .ok (.aload_n 0, 1) := by decide +kernel
theorem dX5_count_84 : decode cX5_count 84 = .ok (.getfield 72, 3) := by decide +kernel
theorem dX5_count_87 : decode cX5_count 87 = .ok (.ireturn, 1) := by decide +kernel
theorem dX5_count_88 : decode cX5_count 88 = .ok (.aload_n 0, 1) := by decide +kernel
theorem dX5_count_89 : decode cX5_count 89 = .ok (.getfield 40, 3) := by decide +kernel
theorem dX5_count_92 : decode cX5_count 92 = .ok (.invokevirtual 206, 3) := by decide +kernel
theorem dX5_count_95 : decode cX5_count 95 = .ok (.ireturn, 1) := by decide +kernel
theorem dX5_count_96 : decode cX5_count 96 = .ok (.aload_n 0, 1) := by decide +kernel
theorem dX5_count_97 : decode cX5_count 97 = .ok (.getfield 40, 3) := by decide +kernel
theorem dX5_count_100 : decode cX5_count 100 = .ok (.invokevirtual 222, 3) := by decide +kernel
theorem dX5_count_103 : decode cX5_count 103 = .ok (.ireturn, 1) := by decide +kernel
theorem dX5_count_104 : decode cX5_count 104 = .ok (.new 225, 3) := by decide +kernel
theorem dX5_count_107 : decode cX5_count 107 = .ok (.dup, 1) := by decide +kernel
theorem dX5_count_108 : decode cX5_count 108 = .ok (.ldc 227, 2) := by decide +kernel
theorem dX5_count_110 : decode cX5_count 110 = .ok (.invokespecial 229, 3) := by decide +kernel
theorem dX5_count_113 : decode cX5_count 113 = .ok (.athrow, 1) := by decide +kernel
