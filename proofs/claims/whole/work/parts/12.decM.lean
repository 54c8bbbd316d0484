theorem dX6_thrown_0 : decode cX6_thrown 0 = .ok (.aload_n 0, 1) := by decide +kernel
theorem dX6_thrown_1 : decode cX6_thrown 1 = .ok (.getfield 51, 3) := by decide +kernel
theorem dX6_thrown_4 : decode cX6_thrown 4 = .ok (.ireturn, 1) := by decide +kernel
theorem dX6_throwing_0 : decode cX6_throwing 0 = .ok (.aload_n 0, 1) := by decide +kernel
theorem dX6_throwing_1 : decode cX6_throwing 1 = .ok (.iload_n 1, 1) := by decide +kernel
theorem dX6_throwing_2 : decode cX6_throwing 2 = .ok (.ifCond .eq 7, 3) := by decide +kernel
theorem dX6_throwing_5 : decode cX6_throwing 5 = .ok (.iconst 1, 1) := by decide +kernel
theorem dX6_throwing_6 : decode cX6_throwing 6 = .ok (.goto 29, 3) := by decide +kernel
theorem dX6_throwing_9 : decode cX6_throwing 9 = .ok (.iload_n 2, 1) := by decide +kernel
theorem dX6_throwing_10 : decode cX6_throwing 10 = .ok (.ifCond .eq 7, 3) := by decide +kernel
theorem dX6_throwing_13 : decode cX6_throwing 13 = .ok (.iconst 2, 1) := by decide +kernel
theorem dX6_throwing_14 : decode cX6_throwing 14 = .ok (.goto 21, 3) := by decide +kernel
theorem dX6_throwing_17 : decode cX6_throwing 17 = .ok (.iload_n 3, 1) := by decide +kernel
theorem dX6_throwing_18 : decode cX6_throwing 18 = .ok (.ifCond .eq 7, 3) := by decide +kernel
theorem dX6_throwing_21 : decode cX6_throwing 21 = .ok (.iconst 3, 1) := by decide +kernel
theorem dX6_throwing_22 : decode cX6_throwing 22 = .ok (.goto 13, 3) := by decide +kernel
theorem dX6_throwing_25 : decode cX6_throwing 25 = .ok (.iload 4, 2) := by decide +kernel
theorem dX6_throwing_27 : decode cX6_throwing 27 = .ok (.ifCond .eq 7, 3) := by decide +kernel
theorem dX6_throwing_30 : decode cX6_throwing 30 = .ok (.iconst 4, 1) := by decide +kernel
theorem dX6_throwing_31 : decode cX6_throwing 31 = .ok (.goto 4, 3) := by decide +kernel
theorem dX6_throwing_34 : decode cX6_throwing 34 = .ok (.iconst 0, 1) := by decide +kernel
theorem dX6_throwing_35 : decode cX6_throwing 35 = .ok (.putfield 51, 3) := by decide +kernel
theorem dX6_throwing_38 : decode cX6_throwing 38 = .ok (.aload_n 0, 1) := by decide +kernel
theorem dX6_throwing_39 : decode cX6_throwing 39 = .ok (.getfield 51, 3) := by decide +kernel
theorem dX6_throwing_42 : decode cX6_throwing 42 = .ok (.ifCond .le 7, 3) := by decide +kernel
theorem dX6_throwing_45 : decode cX6_throwing 45 = .ok (.iconst 1, 1) := by decide +kernel
theorem dX6_throwing_46 : decode cX6_throwing 46 = .ok (.goto 4, 3) := by decide +kernel
theorem dX6_throwing_49 : decode cX6_throwing 49 = .ok (.iconst 0, 1) := by decide +kernel
theorem dX6_throwing_50 : decode cX6_throwing 50 = .ok (.ireturn, 1) := by decide +kernel
theorem dX6_in_0 : decode cX6_in 0 = .ok (.iload_n 0, 1) := by decide +kernel
theorem dX6_in_1 : decode cX6_in 1 = .ok (.iload_n 1, 1) := by decide +kernel
theorem dX6_in_2 : decode cX6_in 2 = .ok (.if_icmp .lt 12, 3) := by decide +kernel
theorem dX6_in_5 : decode cX6_in 5 = .ok (.iload_n 0, 1) := by decide +kernel
theorem dX6_in_6 : decode cX6_in 6 = .ok (.iload_n 2, 1) := by decide +kernel
theorem dX6_in_7 : decode cX6_in 7 = .ok (.if_icmp .gt 7, 3) := by decide +kernel
theorem dX6_in_10 : decode cX6_in 10 = .ok (.iconst 1, 1) := by decide +kernel
theorem dX6_in_11 : decode cX6_in 11 = .ok (.goto 4, 3) := by decide +kernel
theorem dX6_in_14 : decode cX6_in 14 = .ok (.iconst 0, 1) := by decide +kernel
theorem dX6_in_15 : decode cX6_in 15 = .ok (.ireturn, 1) := by decide +kernel
theorem dX6_at_0 : decode cX6_at 0 = .ok (.sipush 512, 3) := by decide +kernel
theorem dX6_at_3 : decode cX6_at 3 = .ok (.bipush 32, 2) := by decide +kernel
theorem dX6_at_5 : decode cX6_at 5 = .ok (.iload_n 0, 1) := by decide +kernel
theorem dX6_at_6 : decode cX6_at 6 = .ok (.imul, 1) := by decide +kernel
theorem dX6_at_7 : decode cX6_at 7 = .ok (.iload_n 1, 1) := by decide +kernel
theorem dX6_at_8 : decode cX6_at 8 = .ok (.iadd, 1) := by decide +kernel
theorem dX6_at_9 : decode cX6_at 9 = .ok (.imul, 1) := by decide +kernel
theorem dX6_at_10 : decode cX6_at 10 = .ok (.ireturn, 1) := by decide +kernel
theorem dX6_with_0 : decode cX6_with 0 = .ok (.iload_n 0, 1) := by decide +kernel
theorem dX6_with_1 : decode cX6_with 1 = .ok (.iload_n 1, 1) := by decide +kernel
theorem dX6_with_2 : decode cX6_with 2 = .ok (.ixor, 1) := by decide +kernel
theorem dX6_with_3 : decode cX6_with 3 = .ok (.istore_n 2, 1) := by decide +kernel
theorem dX6_with_4 : decode cX6_with 4 = .ok (.iload_n 2, 1) := by decide +kernel
theorem dX6_with_5 : decode cX6_with 5 = .ok (.iconst 5, 1) := by decide +kernel
theorem dX6_with_6 : decode cX6_with 6 = .ok (.ishl, 1) := by decide +kernel
theorem dX6_with_7 : decode cX6_with 7 = .ok (.iload_n 2, 1) := by decide +kernel
theorem dX6_with_8 : decode cX6_with 8 = .ok (.bipush 27, 2) := by decide +kernel
theorem dX6_with_10 : decode cX6_with 10 = .ok (.iushr, 1) := by decide +kernel
theorem dX6_with_11 : decode cX6_with 11 = .ok (.ior, 1) := by decide +kernel
theorem dX6_with_12 : decode cX6_with 12 = .ok (.ldc 93, 2) := by decide +kernel
theorem dX6_with_14 : decode cX6_with 14 = .ok (.imul, 1) := by decide +kernel
theorem dX6_with_15 : decode cX6_with 15 = .ok (.ireturn, 1) := by decide +kernel
theorem dX6_four_0 : decode cX6_four 0 = .ok (.aload_n 0, 1) := by decide +kernel
theorem dX6_four_1 : decode cX6_four 1 = .ok (.getfield 8, 3) := by decide +kernel
theorem dX6_four_4 : decode cX6_four 4 = .ok (.iload_n 1, 1) := by decide +kernel
theorem dX6_four_5 : decode cX6_four 5 = .ok (.iaload, 1) := by decide +kernel
theorem dX6_four_6 : decode cX6_four 6 = .ok (.bipush 24, 2) := by decide +kernel
theorem dX6_four_8 : decode cX6_four 8 = .ok (.ishl, 1) := by decide +kernel
theorem dX6_four_9 : decode cX6_four 9 = .ok (.aload_n 0, 1) := by decide +kernel
theorem dX6_four_10 : decode cX6_four 10 = .ok (.getfield 8, 3) := by decide +kernel
theorem dX6_four_13 : decode cX6_four 13 = .ok (.iload_n 1, 1) := by decide +kernel
theorem dX6_four_14 : decode cX6_four 14 = .ok (.iconst 1, 1) := by decide +kernel
theorem dX6_four_15 : decode cX6_four 15 = .ok (.iadd, 1) := by decide +kernel
theorem dX6_four_16 : decode cX6_four 16 = .ok (.iaload, 1) := by decide +kernel
theorem dX6_four_17 : decode cX6_four 17 = .ok (.bipush 16, 2) := by decide +kernel
theorem dX6_four_19 : decode cX6_four 19 = .ok (.ishl, 1) := by decide +kernel
theorem dX6_four_20 : decode cX6_four 20 = .ok (.ior, 1) := by decide +kernel
theorem dX6_four_21 : decode cX6_four 21 = .ok (.aload_n 0, 1) := by decide +kernel
theorem dX6_four_22 : decode cX6_four 22 = .ok (.getfield 8, 3) := by decide +kernel
theorem dX6_four_25 : decode cX6_four 25 = .ok (.iload_n 1, 1) := by decide +kernel
theorem dX6_four_26 : decode cX6_four 26 = .ok (.iconst 2, 1) := by decide +kernel
theorem dX6_four_27 : decode cX6_four 27 = .ok (.iadd, 1) := by decide +kernel
theorem dX6_four_28 : decode cX6_four 28 = .ok (.iaload, 1) := by decide +kernel
theorem dX6_four_29 : decode cX6_four 29 = .ok (.bipush 8, 2) := by decide +kernel
theorem dX6_four_31 : decode cX6_four 31 = .ok (.ishl, 1) := by decide +kernel
theorem dX6_four_32 : decode cX6_four 32 = .ok (.ior, 1) := by decide +kernel
theorem dX6_four_33 : decode cX6_four 33 = .ok (.aload_n 0, 1) := by decide +kernel
theorem dX6_four_34 : decode cX6_four 34 = .ok (.getfield 8, 3) := by decide +kernel
theorem dX6_four_37 : decode cX6_four 37 = .ok (.iload_n 1, 1) := by decide +kernel
theorem dX6_four_38 : decode cX6_four 38 = .ok (.iconst 3, 1) := by decide +kernel
theorem dX6_four_39 : decode cX6_four 39 = .ok (.iadd, 1) := by decide +kernel
theorem dX6_four_40 : decode cX6_four 40 = .ok (.iaload, 1) := by decide +kernel
theorem dX6_four_41 : decode cX6_four 41 = .ok (.ior, 1) := by decide +kernel
theorem dX6_four_42 : decode cX6_four 42 = .ok (.ireturn, 1) := by decide +kernel
theorem dX6_lengthOf_0 : decode cX6_lengthOf 0 = .ok (.aload_n 0, 1) := by decide +kernel
theorem dX6_lengthOf_1 : decode cX6_lengthOf 1 = .ok (.getfield 8, 3) := by decide +kernel
theorem dX6_lengthOf_4 : decode cX6_lengthOf 4 = .ok (.iload_n 1, 1) := by decide +kernel
theorem dX6_lengthOf_5 : decode cX6_lengthOf 5 = .ok (.iconst 4, 1) := by decide +kernel
theorem dX6_lengthOf_6 : decode cX6_lengthOf 6 = .ok (.iadd, 1) := by decide +kernel
theorem dX6_lengthOf_7 : decode cX6_lengthOf 7 = .ok (.iaload, 1) := by decide +kernel
theorem dX6_lengthOf_8 : decode cX6_lengthOf 8 = .ok (.bipush 8, 2) := by decide +kernel
theorem dX6_lengthOf_10 : decode cX6_lengthOf 10 = .ok (.ishl, 1) := by decide +kernel
theorem dX6_lengthOf_11 : decode cX6_lengthOf 11 = .ok (.aload_n 0, 1) := by decide +kernel
theorem dX6_lengthOf_12 : decode cX6_lengthOf 12 = .ok (.getfield 8, 3) := by decide +kernel
theorem dX6_lengthOf_15 : decode cX6_lengthOf 15 = .ok (.iload_n 1, 1) := by decide +kernel
theorem dX6_lengthOf_16 : decode cX6_lengthOf 16 = .ok (.iconst 5, 1) := by decide +kernel
theorem dX6_lengthOf_17 : decode cX6_lengthOf 17 = .ok (.iadd, 1) := by decide +kernel
theorem dX6_lengthOf_18 : decode cX6_lengthOf 18 = .ok (.iaload, 1) := by decide +kernel
theorem dX6_lengthOf_19 : decode cX6_lengthOf 19 = .ok (.ior, 1) := by decide +kernel
theorem dX6_lengthOf_20 : decode cX6_lengthOf 20 = .ok (.ireturn, 1) := by decide +kernel
theorem dX6_isSummed_0 : decode cX6_isSummed 0 = .ok (.iconst 0, 1) := by decide +kernel
theorem dX6_isSummed_1 : decode cX6_isSummed 1 = .ok (.istore_n 2, 1) := by decide +kernel
theorem dX6_isSummed_2 : decode cX6_isSummed 2 = .ok (.iconst 0, 1) := by decide +kernel
theorem dX6_isSummed_3 : decode cX6_isSummed 3 = .ok (.istore_n 3, 1) := by decide +kernel
theorem dX6_isSummed_4 : decode cX6_isSummed 4 = .ok (.iload_n 3, 1) := by decide +kernel
theorem dX6_isSummed_5 : decode cX6_isSummed 5 = .ok (.sipush 508, 3) := by decide +kernel
theorem dX6_isSummed_8 : decode cX6_isSummed 8 = .ok (.if_icmp .ge 22, 3) := by decide +kernel
theorem dX6_isSummed_11 : decode cX6_isSummed 11 = .ok (.iload_n 2, 1) := by decide +kernel
theorem dX6_isSummed_12 : decode cX6_isSummed 12 = .ok (.aload_n 0, 1) := by decide +kernel
theorem dX6_isSummed_13 : decode cX6_isSummed 13 = .ok (.getfield 8, 3) := by decide +kernel
theorem dX6_isSummed_16 : decode cX6_isSummed 16 = .ok (.iload_n 1, 1) := by decide +kernel
theorem dX6_isSummed_17 : decode cX6_isSummed 17 = .ok (.iload_n 3, 1) := by decide +kernel
theorem dX6_isSummed_18 : decode cX6_isSummed 18 = .ok (.iadd, 1) := by decide +kernel
theorem dX6_isSummed_19 : decode cX6_isSummed 19 = .ok (.iaload, 1) := by decide +kernel
theorem dX6_isSummed_20 : decode cX6_isSummed 20 = .ok (.invokestatic 94, 3) := by decide +kernel
theorem dX6_isSummed_23 : decode cX6_isSummed 23 = .ok (.istore_n 2, 1) := by decide +kernel
theorem dX6_isSummed_24 : decode cX6_isSummed 24 = .ok (.iinc 3 1, 3) := by decide +kernel
theorem dX6_isSummed_27 : decode cX6_isSummed 27 = .ok (.goto (-23), 3) := by decide +kernel
theorem dX6_isSummed_30 : decode cX6_isSummed 30 = .ok (.iload_n 2, 1) := by decide +kernel
theorem dX6_isSummed_31 : decode cX6_isSummed 31 = .ok (.aload_n 0, 1) := by decide +kernel
theorem dX6_isSummed_32 : decode cX6_isSummed 32 = .ok (.iload_n 1, 1) := by decide +kernel
theorem dX6_isSummed_33 : decode cX6_isSummed 33 = .ok (.sipush 508, 3) := by decide +kernel
theorem dX6_isSummed_36 : decode cX6_isSummed 36 = .ok (.iadd, 1) := by decide +kernel
theorem dX6_isSummed_37 : decode cX6_isSummed 37 = .ok (.invokevirtual 98, 3) := by decide +kernel
theorem dX6_isSummed_40 : decode cX6_isSummed 40 = .ok (.if_icmp .ne 7, 3) := by decide +kernel
theorem dX6_isSummed_43 : decode cX6_isSummed 43 = .ok (.iconst 1, 1) := by decide +kernel
theorem dX6_isSummed_44 : decode cX6_isSummed 44 = .ok (.goto 4, 3) := by decide +kernel
theorem dX6_isSummed_47 : decode cX6_isSummed 47 = .ok (.iconst 0, 1) := by decide +kernel
theorem dX6_isSummed_48 : decode cX6_isSummed 48 = .ok (.ireturn, 1) := by decide +kernel
theorem dX6_rowsOn_0 : decode cX6_rowsOn 0 = .ok (.iload_n 1, 1) := by decide +kernel
theorem dX6_rowsOn_1 : decode cX6_rowsOn 1 = .ok (.bipush 6, 2) := by decide +kernel
theorem dX6_rowsOn_3 : decode cX6_rowsOn 3 = .ok (.iadd, 1) := by decide +kernel
theorem dX6_rowsOn_4 : decode cX6_rowsOn 4 = .ok (.aload_n 0, 1) := by decide +kernel
theorem dX6_rowsOn_5 : decode cX6_rowsOn 5 = .ok (.iload_n 1, 1) := by decide +kernel
theorem dX6_rowsOn_6 : decode cX6_rowsOn 6 = .ok (.invokevirtual 102, 3) := by decide +kernel
theorem dX6_rowsOn_9 : decode cX6_rowsOn 9 = .ok (.iadd, 1) := by decide +kernel
theorem dX6_rowsOn_10 : decode cX6_rowsOn 10 = .ok (.istore_n 2, 1) := by decide +kernel
theorem dX6_rowsOn_11 : decode cX6_rowsOn 11 = .ok (.aload_n 0, 1) := by decide +kernel
theorem dX6_rowsOn_12 : decode cX6_rowsOn 12 = .ok (.iload_n 1, 1) := by decide +kernel
theorem dX6_rowsOn_13 : decode cX6_rowsOn 13 = .ok (.invokevirtual 102, 3) := by decide +kernel
theorem dX6_rowsOn_16 : decode cX6_rowsOn 16 = .ok (.sipush 502, 3) := by decide +kernel
theorem dX6_rowsOn_19 : decode cX6_rowsOn 19 = .ok (.if_icmp .le 5, 3) := by decide +kernel
theorem dX6_rowsOn_22 : decode cX6_rowsOn 22 = .ok (.iconst 0, 1) := by decide +kernel
theorem dX6_rowsOn_23 : decode cX6_rowsOn 23 = .ok (.ireturn, 1) := by decide +kernel
theorem dX6_rowsOn_24 : decode cX6_rowsOn 24 = .ok (.iconst 0, 1) := by decide +kernel
theorem dX6_rowsOn_25 : decode cX6_rowsOn 25 = .ok (.istore_n 3, 1) := by decide +kernel
theorem dX6_rowsOn_26 : decode cX6_rowsOn 26 = .ok (.iload_n 1, 1) := by decide +kernel
theorem dX6_rowsOn_27 : decode cX6_rowsOn 27 = .ok (.bipush 6, 2) := by decide +kernel
theorem dX6_rowsOn_29 : decode cX6_rowsOn 29 = .ok (.iadd, 1) := by decide +kernel
theorem dX6_rowsOn_30 : decode cX6_rowsOn 30 = .ok (.istore 4, 2) := by decide +kernel
theorem dX6_rowsOn_32 : decode cX6_rowsOn 32 = .ok (.iload 4, 2) := by decide +kernel
theorem dX6_rowsOn_34 : decode cX6_rowsOn 34 = .ok (.iload_n 2, 1) := by decide +kernel
theorem dX6_rowsOn_35 : decode cX6_rowsOn 35 = .ok (.if_icmp .ge 99, 3) := by decide +kernel
theorem dX6_rowsOn_38 : decode cX6_rowsOn 38 = .ok (.iload 4, 2) := by decide +kernel
theorem dX6_rowsOn_40 : decode cX6_rowsOn 40 = .ok (.iconst 2, 1) := by decide +kernel
theorem dX6_rowsOn_41 : decode cX6_rowsOn 41 = .ok (.iadd, 1) := by decide +kernel
theorem dX6_rowsOn_42 : decode cX6_rowsOn 42 = .ok (.iload_n 2, 1) := by decide +kernel
theorem dX6_rowsOn_43 : decode cX6_rowsOn 43 = .ok (.if_icmp .gt 59, 3) := by decide +kernel
theorem dX6_rowsOn_46 : decode cX6_rowsOn 46 = .ok (.aload_n 0, 1) := by decide +kernel
theorem dX6_rowsOn_47 : decode cX6_rowsOn 47 = .ok (.getfield 8, 3) := by decide +kernel
theorem dX6_rowsOn_50 : decode cX6_rowsOn 50 = .ok (.iload 4, 2) := by decide +kernel
theorem dX6_rowsOn_52 : decode cX6_rowsOn 52 = .ok (.iaload, 1) := by decide +kernel
theorem dX6_rowsOn_53 : decode cX6_rowsOn 53 = .ok (.iconst 0, 1) := by decide +kernel
theorem dX6_rowsOn_54 : decode cX6_rowsOn 54 = .ok (.bipush 7, 2) := by decide +kernel
theorem dX6_rowsOn_56 : decode cX6_rowsOn 56 = .ok (.invokestatic 54, 3) := by decide +kernel
theorem dX6_rowsOn_59 : decode cX6_rowsOn 59 = .ok (.ifCond .eq 43, 3) := by decide +kernel
theorem dX6_rowsOn_62 : decode cX6_rowsOn 62 = .ok (.aload_n 0, 1) := by decide +kernel
theorem dX6_rowsOn_63 : decode cX6_rowsOn 63 = .ok (.getfield 8, 3) := by decide +kernel
theorem dX6_rowsOn_66 : decode cX6_rowsOn 66 = .ok (.iload 4, 2) := by decide +kernel
theorem dX6_rowsOn_68 : decode cX6_rowsOn 68 = .ok (.iconst 1, 1) := by decide +kernel
theorem dX6_rowsOn_69 : decode cX6_rowsOn 69 = .ok (.iadd, 1) := by decide +kernel
theorem dX6_rowsOn_70 : decode cX6_rowsOn 70 = .ok (.iaload, 1) := by decide +kernel
theorem dX6_rowsOn_71 : decode cX6_rowsOn 71 = .ok (.iconst 1, 1) := by decide +kernel
theorem dX6_rowsOn_72 : decode cX6_rowsOn 72 = .ok (.bipush 8, 2) := by decide +kernel
theorem dX6_rowsOn_74 : decode cX6_rowsOn 74 = .ok (.invokestatic 54, 3) := by decide +kernel
theorem dX6_rowsOn_77 : decode cX6_rowsOn 77 = .ok (.ifCond .eq 25, 3) := by decide +kernel
theorem dX6_rowsOn_80 : decode cX6_rowsOn 80 = .ok (.iload 4, 2) := by decide +kernel
theorem dX6_rowsOn_82 : decode cX6_rowsOn 82 = .ok (.iconst 2, 1) := by decide +kernel
theorem dX6_rowsOn_83 : decode cX6_rowsOn 83 = .ok (.iadd, 1) := by decide +kernel
theorem dX6_rowsOn_84 : decode cX6_rowsOn 84 = .ok (.aload_n 0, 1) := by decide +kernel
theorem dX6_rowsOn_85 : decode cX6_rowsOn 85 = .ok (.getfield 8, 3) := by decide +kernel
theorem dX6_rowsOn_88 : decode cX6_rowsOn 88 = .ok (.iload 4, 2) := by decide +kernel
theorem dX6_rowsOn_90 : decode cX6_rowsOn 90 = .ok (.iconst 1, 1) := by decide +kernel
theorem dX6_rowsOn_91 : decode cX6_rowsOn 91 = .ok (.iadd, 1) := by decide +kernel
theorem dX6_rowsOn_92 : decode cX6_rowsOn 92 = .ok (.iaload, 1) := by decide +kernel
theorem dX6_rowsOn_93 : decode cX6_rowsOn 93 = .ok (.iadd, 1) := by decide +kernel
theorem dX6_rowsOn_94 : decode cX6_rowsOn 94 = .ok (.iload_n 2, 1) := by decide +kernel
theorem dX6_rowsOn_95 : decode cX6_rowsOn 95 = .ok (.if_icmp .gt 7, 3) := by decide +kernel
theorem dX6_rowsOn_98 : decode cX6_rowsOn 98 = .ok (.iconst 1, 1) := by decide +kernel
theorem dX6_rowsOn_99 : decode cX6_rowsOn 99 = .ok (.goto 4, 3) := by decide +kernel
theorem dX6_rowsOn_102 : decode cX6_rowsOn 102 = .ok (.iconst 0, 1) := by decide +kernel
theorem dX6_rowsOn_103 : decode cX6_rowsOn 103 = .ok (.istore 5, 2) := by decide +kernel
theorem dX6_rowsOn_105 : decode cX6_rowsOn 105 = .ok (.iload 5, 2) := by decide +kernel
theorem dX6_rowsOn_107 : decode cX6_rowsOn 107 = .ok (.ifCond .ne 5, 3) := by decide +kernel
theorem dX6_rowsOn_110 : decode cX6_rowsOn 110 = .ok (.iconst 0, 1) := by decide +kernel
theorem dX6_rowsOn_111 : decode cX6_rowsOn 111 = .ok (.ireturn, 1) := by decide +kernel
theorem dX6_rowsOn_112 : decode cX6_rowsOn 112 = .ok (.iload 4, 2) := by decide +kernel
theorem dX6_rowsOn_114 : decode cX6_rowsOn 114 = .ok (.iconst 2, 1) := by decide +kernel
theorem dX6_rowsOn_115 : decode cX6_rowsOn 115 = .ok (.aload_n 0, 1) := by decide +kernel
theorem dX6_rowsOn_116 : decode cX6_rowsOn 116 = .ok (.getfield 8, 3) := by decide +kernel
theorem dX6_rowsOn_119 : decode cX6_rowsOn 119 = .ok (.iload 4, 2) := by decide +kernel
theorem dX6_rowsOn_121 : decode cX6_rowsOn 121 = .ok (.iconst 1, 1) := by decide +kernel
theorem dX6_rowsOn_122 : decode cX6_rowsOn 122 = .ok (.iadd, 1) := by decide +kernel
theorem dX6_rowsOn_123 : decode cX6_rowsOn 123 = .ok (.iaload, 1) := by decide +kernel
theorem dX6_rowsOn_124 : decode cX6_rowsOn 124 = .ok (.iadd, 1) := by decide +kernel
theorem dX6_rowsOn_125 : decode cX6_rowsOn 125 = .ok (.iadd, 1) := by decide +kernel
theorem dX6_rowsOn_126 : decode cX6_rowsOn 126 = .ok (.istore 4, 2) := by decide +kernel
theorem dX6_rowsOn_128 : decode cX6_rowsOn 128 = .ok (.iinc 3 1, 3) := by decide +kernel
theorem dX6_rowsOn_131 : decode cX6_rowsOn 131 = .ok (.goto (-99), 3) := by decide +kernel
theorem dX6_rowsOn_134 : decode cX6_rowsOn 134 = .ok (.iload_n 3, 1) := by decide +kernel
theorem dX6_rowsOn_135 : decode cX6_rowsOn 135 = .ok (.ireturn, 1) := by decide +kernel
theorem dX6_isRight_0 : decode cX6_isRight 0 = .ok (.iload_n 1, 1) := by decide +kernel
theorem dX6_isRight_1 : decode cX6_isRight 1 = .ok (.iload_n 2, 1) := by decide +kernel
theorem dX6_isRight_2 : decode cX6_isRight 2 = .ok (.invokestatic 105, 3) := by decide +kernel
theorem dX6_isRight_5 : decode cX6_isRight 5 = .ok (.istore_n 3, 1) := by decide +kernel
theorem dX6_isRight_6 : decode cX6_isRight 6 = .ok (.aload_n 0, 1) := by decide +kernel
theorem dX6_isRight_7 : decode cX6_isRight 7 = .ok (.iload_n 3, 1) := by decide +kernel
theorem dX6_isRight_8 : decode cX6_isRight 8 = .ok (.invokevirtual 108, 3) := by decide +kernel
theorem dX6_isRight_11 : decode cX6_isRight 11 = .ok (.ifCond .ne 5, 3) := by decide +kernel
theorem dX6_isRight_14 : decode cX6_isRight 14 = .ok (.iconst 0, 1) := by decide +kernel
theorem dX6_isRight_15 : decode cX6_isRight 15 = .ok (.ireturn, 1) := by decide +kernel
theorem dX6_isRight_16 : decode cX6_isRight 16 = .ok (.iload_n 2, 1) := by decide +kernel
theorem dX6_isRight_17 : decode cX6_isRight 17 = .ok (.aload_n 0, 1) := by decide +kernel
theorem dX6_isRight_18 : decode cX6_isRight 18 = .ok (.getfield 62, 3) := by decide +kernel
theorem dX6_isRight_21 : decode cX6_isRight 21 = .ok (.iconst 2, 1) := by decide +kernel
theorem dX6_isRight_22 : decode cX6_isRight 22 = .ok (.isub, 1) := by decide +kernel
theorem dX6_isRight_23 : decode cX6_isRight 23 = .ok (.if_icmp .lt 27, 3) := by decide +kernel
theorem dX6_isRight_26 : decode cX6_isRight 26 = .ok (.aload_n 0, 1) := by decide +kernel
theorem dX6_isRight_27 : decode cX6_isRight 27 = .ok (.iload_n 3, 1) := by decide +kernel
theorem dX6_isRight_28 : decode cX6_isRight 28 = .ok (.invokevirtual 98, 3) := by decide +kernel
theorem dX6_isRight_31 : decode cX6_isRight 31 = .ok (.ifCond .eq 17, 3) := by decide +kernel
theorem dX6_isRight_34 : decode cX6_isRight 34 = .ok (.aload_n 0, 1) := by decide +kernel
theorem dX6_isRight_35 : decode cX6_isRight 35 = .ok (.iload_n 3, 1) := by decide +kernel
theorem dX6_isRight_36 : decode cX6_isRight 36 = .ok (.invokevirtual 102, 3) := by decide +kernel
theorem dX6_isRight_39 : decode cX6_isRight 39 = .ok (.bipush 8, 2) := by decide +kernel
theorem dX6_isRight_41 : decode cX6_isRight 41 = .ok (.if_icmp .ne 7, 3) := by decide +kernel
theorem dX6_isRight_44 : decode cX6_isRight 44 = .ok (.iconst 1, 1) := by decide +kernel
theorem dX6_isRight_45 : decode cX6_isRight 45 = .ok (.goto 4, 3) := by decide +kernel
theorem dX6_isRight_48 : decode cX6_isRight 48 = .ok (.iconst 0, 1) := by decide +kernel
theorem dX6_isRight_49 : decode cX6_isRight 49 = .ok (.ireturn, 1) := by decide +kernel
theorem dX6_isRight_50 : decode cX6_isRight 50 = .ok (.aload_n 0, 1) := by decide +kernel
theorem dX6_isRight_51 : decode cX6_isRight 51 = .ok (.iload_n 3, 1) := by decide +kernel
theorem dX6_isRight_52 : decode cX6_isRight 52 = .ok (.invokevirtual 98, 3) := by decide +kernel
theorem dX6_isRight_55 : decode cX6_isRight 55 = .ok (.iload_n 2, 1) := by decide +kernel
theorem dX6_isRight_56 : decode cX6_isRight 56 = .ok (.iconst 1, 1) := by decide +kernel
theorem dX6_isRight_57 : decode cX6_isRight 57 = .ok (.iadd, 1) := by decide +kernel
theorem dX6_isRight_58 : decode cX6_isRight 58 = .ok (.if_icmp .ne 15, 3) := by decide +kernel
theorem dX6_isRight_61 : decode cX6_isRight 61 = .ok (.aload_n 0, 1) := by decide +kernel
theorem dX6_isRight_62 : decode cX6_isRight 62 = .ok (.iload_n 3, 1) := by decide +kernel
theorem dX6_isRight_63 : decode cX6_isRight 63 = .ok (.invokevirtual 112, 3) := by decide +kernel
theorem dX6_isRight_66 : decode cX6_isRight 66 = .ok (.ifCond .le 7, 3) := by decide +kernel
theorem dX6_isRight_69 : decode cX6_isRight 69 = .ok (.iconst 1, 1) := by decide +kernel
theorem dX6_isRight_70 : decode cX6_isRight 70 = .ok (.goto 4, 3) := by decide +kernel
theorem dX6_isRight_73 : decode cX6_isRight 73 = .ok (.iconst 0, 1) := by decide +kernel
theorem dX6_isRight_74 : decode cX6_isRight 74 = .ok (.ireturn, 1) := by decide +kernel
theorem dX6_rightCopy_0 : decode cX6_rightCopy 0 = .ok (.aload_n 0, 1) := by decide +kernel
theorem dX6_rightCopy_1 : decode cX6_rightCopy 1 = .ok (.iconst 0, 1) := by decide +kernel
theorem dX6_rightCopy_2 : decode cX6_rightCopy 2 = .ok (.iload_n 1, 1) := by decide +kernel
theorem dX6_rightCopy_3 : decode cX6_rightCopy 3 = .ok (.invokevirtual 115, 3) := by decide +kernel
theorem dX6_rightCopy_6 : decode cX6_rightCopy 6 = .ok (.ifCond .eq 7, 3) := by decide +kernel
theorem dX6_rightCopy_9 : decode cX6_rightCopy 9 = .ok (.iconst 0, 1) := by decide +kernel
theorem dX6_rightCopy_10 : decode cX6_rightCopy 10 = .ok (.goto 17, 3) := by decide +kernel
theorem dX6_rightCopy_13 : decode cX6_rightCopy 13 = .ok (.aload_n 0, 1) := by decide +kernel
theorem dX6_rightCopy_14 : decode cX6_rightCopy 14 = .ok (.iconst 1, 1) := by decide +kernel
theorem dX6_rightCopy_15 : decode cX6_rightCopy 15 = .ok (.iload_n 1, 1) := by decide +kernel
theorem dX6_rightCopy_16 : decode cX6_rightCopy 16 = .ok (.invokevirtual 115, 3) := by decide +kernel
theorem dX6_rightCopy_19 : decode cX6_rightCopy 19 = .ok (.ifCond .eq 7, 3) := by decide +kernel
theorem dX6_rightCopy_22 : decode cX6_rightCopy 22 = .ok (.iconst 1, 1) := by decide +kernel
theorem dX6_rightCopy_23 : decode cX6_rightCopy 23 = .ok (.goto 4, 3) := by decide +kernel
theorem dX6_rightCopy_26 : decode cX6_rightCopy 26 = .ok (.iconst (-1), 1) := by decide +kernel
theorem dX6_rightCopy_27 : decode cX6_rightCopy 27 = .ok (.ireturn, 1) := by decide +kernel
theorem dX6_put_0 : decode cX6_put 0 = .ok (.aload_n 0, 1) := by decide +kernel
theorem dX6_put_1 : decode cX6_put 1 = .ok (.getfield 14, 3) := by decide +kernel
theorem dX6_put_4 : decode cX6_put 4 = .ok (.iload_n 1, 1) := by decide +kernel
theorem dX6_put_5 : decode cX6_put 5 = .ok (.iload_n 2, 1) := by decide +kernel
theorem dX6_put_6 : decode cX6_put 6 = .ok (.sipush 255, 3) := by decide +kernel
theorem dX6_put_9 : decode cX6_put 9 = .ok (.iand, 1) := by decide +kernel
theorem dX6_put_10 : decode cX6_put 10 = .ok (.iastore, 1) := by decide +kernel
theorem dX6_put_11 : decode cX6_put 11 = .ok (.return_, 1) := by decide +kernel
theorem dX6_clear_0 : decode cX6_clear 0 = .ok (.iconst 0, 1) := by decide +kernel
theorem dX6_clear_1 : decode cX6_clear 1 = .ok (.istore_n 2, 1) := by decide +kernel
theorem dX6_clear_2 : decode cX6_clear 2 = .ok (.iload_n 2, 1) := by decide +kernel
theorem dX6_clear_3 : decode cX6_clear 3 = .ok (.sipush 512, 3) := by decide +kernel
theorem dX6_clear_6 : decode cX6_clear 6 = .ok (.if_icmp .ge 16, 3) := by decide +kernel
theorem dX6_clear_9 : decode cX6_clear 9 = .ok (.aload_n 0, 1) := by decide +kernel
theorem dX6_clear_10 : decode cX6_clear 10 = .ok (.getfield 14, 3) := by decide +kernel
theorem dX6_clear_13 : decode cX6_clear 13 = .ok (.iload_n 2, 1) := by decide +kernel
theorem dX6_clear_14 : decode cX6_clear 14 = .ok (.iconst 0, 1) := by decide +kernel
theorem dX6_clear_15 : decode cX6_clear 15 = .ok (.iastore, 1) := by decide +kernel
theorem dX6_clear_16 : decode cX6_clear 16 = .ok (.iinc 2 1, 3) := by decide +kernel
theorem dX6_clear_19 : decode cX6_clear 19 = .ok (.goto (-17), 3) := by decide +kernel
theorem dX6_clear_22 : decode cX6_clear 22 = .ok (.iconst 0, 1) := by decide +kernel
theorem dX6_clear_23 : decode cX6_clear 23 = .ok (.istore_n 2, 1) := by decide +kernel
theorem dX6_clear_24 : decode cX6_clear 24 = .ok (.iload_n 2, 1) := by decide +kernel
theorem dX6_clear_25 : decode cX6_clear 25 = .ok (.iconst 4, 1) := by decide +kernel
theorem dX6_clear_26 : decode cX6_clear 26 = .ok (.if_icmp .ge 23, 3) := by decide +kernel
theorem dX6_clear_29 : decode cX6_clear 29 = .ok (.aload_n 0, 1) := by decide +kernel
theorem dX6_clear_30 : decode cX6_clear 30 = .ok (.iload_n 2, 1) := by decide +kernel
theorem dX6_clear_31 : decode cX6_clear 31 = .ok (.iload_n 1, 1) := by decide +kernel
theorem dX6_clear_32 : decode cX6_clear 32 = .ok (.bipush 24, 2) := by decide +kernel
theorem dX6_clear_34 : decode cX6_clear 34 = .ok (.bipush 8, 2) := by decide +kernel
theorem dX6_clear_36 : decode cX6_clear 36 = .ok (.iload_n 2, 1) := by decide +kernel
theorem dX6_clear_37 : decode cX6_clear 37 = .ok (.imul, 1) := by decide +kernel
theorem dX6_clear_38 : decode cX6_clear 38 = .ok (.isub, 1) := by decide +kernel
theorem dX6_clear_39 : decode cX6_clear 39 = .ok (.ishr, 1) := by decide +kernel
theorem dX6_clear_40 : decode cX6_clear 40 = .ok (.invokevirtual 119, 3) := by decide +kernel
theorem dX6_clear_43 : decode cX6_clear 43 = .ok (.iinc 2 1, 3) := by decide +kernel
theorem dX6_clear_46 : decode cX6_clear 46 = .ok (.goto (-22), 3) := by decide +kernel
theorem dX6_clear_49 : decode cX6_clear 49 = .ok (.return_, 1) := by decide +kernel
theorem dX6_finish_0 : decode cX6_finish 0 = .ok (.aload_n 0, 1) := by decide +kernel
theorem dX6_finish_1 : decode cX6_finish 1 = .ok (.iconst 4, 1) := by decide +kernel
theorem dX6_finish_2 : decode cX6_finish 2 = .ok (.iload_n 1, 1) := by decide +kernel
theorem dX6_finish_3 : decode cX6_finish 3 = .ok (.bipush 8, 2) := by decide +kernel
theorem dX6_finish_5 : decode cX6_finish 5 = .ok (.ishr, 1) := by decide +kernel
theorem dX6_finish_6 : decode cX6_finish 6 = .ok (.invokevirtual 119, 3) := by decide +kernel
theorem dX6_finish_9 : decode cX6_finish 9 = .ok (.aload_n 0, 1) := by decide +kernel
theorem dX6_finish_10 : decode cX6_finish 10 = .ok (.iconst 5, 1) := by decide +kernel
theorem dX6_finish_11 : decode cX6_finish 11 = .ok (.iload_n 1, 1) := by decide +kernel
theorem dX6_finish_12 : decode cX6_finish 12 = .ok (.invokevirtual 119, 3) := by decide +kernel
theorem dX6_finish_15 : decode cX6_finish 15 = .ok (.iconst 0, 1) := by decide +kernel
theorem dX6_finish_16 : decode cX6_finish 16 = .ok (.istore_n 2, 1) := by decide +kernel
theorem dX6_finish_17 : decode cX6_finish 17 = .ok (.iconst 0, 1) := by decide +kernel
theorem dX6_finish_18 : decode cX6_finish 18 = .ok (.istore_n 3, 1) := by decide +kernel
theorem dX6_finish_19 : decode cX6_finish 19 = .ok (.iload_n 3, 1) := by decide +kernel
theorem dX6_finish_20 : decode cX6_finish 20 = .ok (.sipush 508, 3) := by decide +kernel
theorem dX6_finish_23 : decode cX6_finish 23 = .ok (.if_icmp .ge 20, 3) := by decide +kernel
theorem dX6_finish_26 : decode cX6_finish 26 = .ok (.iload_n 2, 1) := by decide +kernel
theorem dX6_finish_27 : decode cX6_finish 27 = .ok (.aload_n 0, 1) := by decide +kernel
theorem dX6_finish_28 : decode cX6_finish 28 = .ok (.getfield 14, 3) := by decide +kernel
theorem dX6_finish_31 : decode cX6_finish 31 = .ok (.iload_n 3, 1) := by decide +kernel
theorem dX6_finish_32 : decode cX6_finish 32 = .ok (.iaload, 1) := by decide +kernel
theorem dX6_finish_33 : decode cX6_finish 33 = .ok (.invokestatic 94, 3) := by decide +kernel
theorem dX6_finish_36 : decode cX6_finish 36 = .ok (.istore_n 2, 1) := by decide +kernel
theorem dX6_finish_37 : decode cX6_finish 37 = .ok (.iinc 3 1, 3) := by decide +kernel
theorem dX6_finish_40 : decode cX6_finish 40 = .ok (.goto (-21), 3) := by decide +kernel
theorem dX6_finish_43 : decode cX6_finish 43 = .ok (.iconst 0, 1) := by decide +kernel
theorem dX6_finish_44 : decode cX6_finish 44 = .ok (.istore_n 3, 1) := by decide +kernel
theorem dX6_finish_45 : decode cX6_finish 45 = .ok (.iload_n 3, 1) := by decide +kernel
theorem dX6_finish_46 : decode cX6_finish 46 = .ok (.iconst 4, 1) := by decide +kernel
theorem dX6_finish_47 : decode cX6_finish 47 = .ok (.if_icmp .ge 27, 3) := by decide +kernel
theorem dX6_finish_50 : decode cX6_finish 50 = .ok (.aload_n 0, 1) := by decide +kernel
theorem dX6_finish_51 : decode cX6_finish 51 = .ok (.sipush 508, 3) := by decide +kernel
theorem dX6_finish_54 : decode cX6_finish 54 = .ok (.iload_n 3, 1) := by decide +kernel
theorem dX6_finish_55 : decode cX6_finish 55 = .ok (.iadd, 1) := by decide +kernel
theorem dX6_finish_56 : decode cX6_finish 56 = .ok (.iload_n 2, 1) := by decide +kernel
theorem dX6_finish_57 : decode cX6_finish 57 = .ok (.bipush 24, 2) := by decide +kernel
theorem dX6_finish_59 : decode cX6_finish 59 = .ok (.bipush 8, 2) := by decide +kernel
theorem dX6_finish_61 : decode cX6_finish 61 = .ok (.iload_n 3, 1) := by decide +kernel
theorem dX6_finish_62 : decode cX6_finish 62 = .ok (.imul, 1) := by decide +kernel
theorem dX6_finish_63 : decode cX6_finish 63 = .ok (.isub, 1) := by decide +kernel
theorem dX6_finish_64 : decode cX6_finish 64 = .ok (.ishr, 1) := by decide +kernel
theorem dX6_finish_65 : decode cX6_finish 65 = .ok (.invokevirtual 119, 3) := by decide +kernel
theorem dX6_finish_68 : decode cX6_finish 68 = .ok (.iinc 3 1, 3) := by decide +kernel
theorem dX6_finish_71 : decode cX6_finish 71 = .ok (.goto (-26), 3) := by decide +kernel
theorem dX6_finish_74 : decode cX6_finish 74 = .ok (.return_, 1) := by decide +kernel
theorem dX6_writeTo_0 : decode cX6_writeTo 0 = .ok (.aload_n 0, 1) := by decide +kernel
theorem dX6_writeTo_1 : decode cX6_writeTo 1 = .ok (.getfield 21, 3) := by decide +kernel
theorem dX6_writeTo_4 : decode cX6_writeTo 4 = .ok (.ifCond .ne 10, 3) := by decide +kernel
theorem dX6_writeTo_7 : decode cX6_writeTo 7 = .ok (.aload_n 0, 1) := by decide +kernel
theorem dX6_writeTo_8 : decode cX6_writeTo 8 = .ok (.getfield 123, 3) := by decide +kernel
theorem dX6_writeTo_11 : decode cX6_writeTo 11 = .ok (.goto 6, 3) := by decide +kernel
theorem dX6_writeTo_14 : decode cX6_writeTo 14 = .ok (.sipush 512, 3) := by decide +kernel
theorem dX6_writeTo_17 : decode cX6_writeTo 17 = .ok (.istore_n 3, 1) := by decide +kernel
theorem dX6_writeTo_18 : decode cX6_writeTo 18 = .ok (.iconst 0, 1) := by decide +kernel
theorem dX6_writeTo_19 : decode cX6_writeTo 19 = .ok (.istore 4, 2) := by decide +kernel
theorem dX6_writeTo_21 : decode cX6_writeTo 21 = .ok (.iload 4, 2) := by decide +kernel
theorem dX6_writeTo_23 : decode cX6_writeTo 23 = .ok (.iload_n 3, 1) := by decide +kernel
theorem dX6_writeTo_24 : decode cX6_writeTo 24 = .ok (.if_icmp .ge 29, 3) := by decide +kernel
theorem dX6_writeTo_27 : decode cX6_writeTo 27 = .ok (.aload_n 0, 1) := by decide +kernel
theorem dX6_writeTo_28 : decode cX6_writeTo 28 = .ok (.getfield 8, 3) := by decide +kernel
theorem dX6_writeTo_31 : decode cX6_writeTo 31 = .ok (.iload_n 1, 1) := by decide +kernel
theorem dX6_writeTo_32 : decode cX6_writeTo 32 = .ok (.iload_n 2, 1) := by decide +kernel
theorem dX6_writeTo_33 : decode cX6_writeTo 33 = .ok (.invokestatic 105, 3) := by decide +kernel
theorem dX6_writeTo_36 : decode cX6_writeTo 36 = .ok (.iload 4, 2) := by decide +kernel
theorem dX6_writeTo_38 : decode cX6_writeTo 38 = .ok (.iadd, 1) := by decide +kernel
theorem dX6_writeTo_39 : decode cX6_writeTo 39 = .ok (.aload_n 0, 1) := by decide +kernel
theorem dX6_writeTo_40 : decode cX6_writeTo 40 = .ok (.getfield 14, 3) := by decide +kernel
theorem dX6_writeTo_43 : decode cX6_writeTo 43 = .ok (.iload 4, 2) := by decide +kernel
theorem dX6_writeTo_45 : decode cX6_writeTo 45 = .ok (.iaload, 1) := by decide +kernel
theorem dX6_writeTo_46 : decode cX6_writeTo 46 = .ok (.iastore, 1) := by decide +kernel
theorem dX6_writeTo_47 : decode cX6_writeTo 47 = .ok (.iinc 4 1, 3) := by decide +kernel
theorem dX6_writeTo_50 : decode cX6_writeTo 50 = .ok (.goto (-29), 3) := by decide +kernel
theorem dX6_writeTo_53 : decode cX6_writeTo 53 = .ok (.aload_n 0, 1) := by decide +kernel
theorem dX6_writeTo_54 : decode cX6_writeTo 54 = .ok (.getfield 21, 3) := by decide +kernel
theorem dX6_writeTo_57 : decode cX6_writeTo 57 = .ok (.ifCond .ne 8, 3) := by decide +kernel
theorem dX6_writeTo_60 : decode cX6_writeTo 60 = .ok (.aload_n 0, 1) := by decide +kernel
theorem dX6_writeTo_61 : decode cX6_writeTo 61 = .ok (.iconst 0, 1) := by decide +kernel
theorem dX6_writeTo_62 : decode cX6_writeTo 62 = .ok (.putfield 65, 3) := by decide +kernel
theorem dX6_writeTo_65 : decode cX6_writeTo 65 = .ok (.aload_n 0, 1) := by decide +kernel
theorem dX6_writeTo_66 : decode cX6_writeTo 66 = .ok (.getfield 21, 3) := by decide +kernel
theorem dX6_writeTo_69 : decode cX6_writeTo 69 = .ok (.ifCond .lt 13, 3) := by decide +kernel
theorem dX6_writeTo_72 : decode cX6_writeTo 72 = .ok (.aload_n 0, 1) := by decide +kernel
theorem dX6_writeTo_73 : decode cX6_writeTo 73 = .ok (.dup, 1) := by decide +kernel
theorem dX6_writeTo_74 : decode cX6_writeTo 74 = .ok (.getfield 21, 3) := by decide +kernel
theorem dX6_writeTo_77 : decode cX6_writeTo 77 = .ok (.iconst 1, 1) := by decide +kernel
theorem dX6_writeTo_78 : decode cX6_writeTo 78 = .ok (.isub, 1) := by decide +kernel
theorem dX6_writeTo_79 : decode cX6_writeTo 79 = .ok (.putfield 21, 3) := by decide +kernel
theorem dX6_writeTo_82 : decode cX6_writeTo 82 = .ok (.aload_n 0, 1) := by decide +kernel
theorem dX6_writeTo_83 : decode cX6_writeTo 83 = .ok (.getfield 65, 3) := by decide +kernel
theorem dX6_writeTo_86 : decode cX6_writeTo 86 = .ok (.ireturn, 1) := by decide +kernel
theorem dX6_write_0 : decode cX6_write 0 = .ok (.aload_n 0, 1) := by decide +kernel
theorem dX6_write_1 : decode cX6_write 1 = .ok (.iconst 0, 1) := by decide +kernel
theorem dX6_write_2 : decode cX6_write 2 = .ok (.iload_n 1, 1) := by decide +kernel
theorem dX6_write_3 : decode cX6_write 3 = .ok (.invokevirtual 126, 3) := by decide +kernel
theorem dX6_write_6 : decode cX6_write 6 = .ok (.ifCond .eq 16, 3) := by decide +kernel
theorem dX6_write_9 : decode cX6_write 9 = .ok (.aload_n 0, 1) := by decide +kernel
theorem dX6_write_10 : decode cX6_write 10 = .ok (.iconst 1, 1) := by decide +kernel
theorem dX6_write_11 : decode cX6_write 11 = .ok (.iload_n 1, 1) := by decide +kernel
theorem dX6_write_12 : decode cX6_write 12 = .ok (.invokevirtual 126, 3) := by decide +kernel
theorem dX6_write_15 : decode cX6_write 15 = .ok (.ifCond .eq 7, 3) := by decide +kernel
theorem dX6_write_18 : decode cX6_write 18 = .ok (.iconst 1, 1) := by decide +kernel
theorem dX6_write_19 : decode cX6_write 19 = .ok (.goto 4, 3) := by decide +kernel
theorem dX6_write_22 : decode cX6_write 22 = .ok (.iconst 0, 1) := by decide +kernel
theorem dX6_write_23 : decode cX6_write 23 = .ok (.ireturn, 1) := by decide +kernel
theorem dX6_needed_0 : decode cX6_needed 0 = .ok (.iconst 0, 1) := by decide +kernel
theorem dX6_needed_1 : decode cX6_needed 1 = .ok (.istore_n 2, 1) := by decide +kernel
theorem dX6_needed_2 : decode cX6_needed 2 = .ok (.iconst 0, 1) := by decide +kernel
theorem dX6_needed_3 : decode cX6_needed 3 = .ok (.istore_n 3, 1) := by decide +kernel
theorem dX6_needed_4 : decode cX6_needed 4 = .ok (.iconst 0, 1) := by decide +kernel
theorem dX6_needed_5 : decode cX6_needed 5 = .ok (.istore 4, 2) := by decide +kernel
theorem dX6_needed_7 : decode cX6_needed 7 = .ok (.iload 4, 2) := by decide +kernel
theorem dX6_needed_9 : decode cX6_needed 9 = .ok (.aload_n 0, 1) := by decide +kernel
theorem dX6_needed_10 : decode cX6_needed 10 = .ok (.getfield 74, 3) := by decide +kernel
theorem dX6_needed_13 : decode cX6_needed 13 = .ok (.if_icmp .gt 67, 3) := by decide +kernel
theorem dX6_needed_16 : decode cX6_needed 16 = .ok (.iload 4, 2) := by decide +kernel
theorem dX6_needed_18 : decode cX6_needed 18 = .ok (.aload_n 0, 1) := by decide +kernel
theorem dX6_needed_19 : decode cX6_needed 19 = .ok (.getfield 74, 3) := by decide +kernel
theorem dX6_needed_22 : decode cX6_needed 22 = .ok (.if_icmp .ge 13, 3) := by decide +kernel
theorem dX6_needed_25 : decode cX6_needed 25 = .ok (.aload_n 0, 1) := by decide +kernel
theorem dX6_needed_26 : decode cX6_needed 26 = .ok (.getfield 40, 3) := by decide +kernel
theorem dX6_needed_29 : decode cX6_needed 29 = .ok (.iload 4, 2) := by decide +kernel
theorem dX6_needed_31 : decode cX6_needed 31 = .ok (.iaload, 1) := by decide +kernel
theorem dX6_needed_32 : decode cX6_needed 32 = .ok (.goto 4, 3) := by decide +kernel
theorem dX6_needed_35 : decode cX6_needed 35 = .ok (.iload_n 1, 1) := by decide +kernel
theorem dX6_needed_36 : decode cX6_needed 36 = .ok (.istore 5, 2) := by decide +kernel
theorem dX6_needed_38 : decode cX6_needed 38 = .ok (.iload 5, 2) := by decide +kernel
theorem dX6_needed_40 : decode cX6_needed 40 = .ok (.ifCond .le 18, 3) := by decide +kernel
theorem dX6_needed_43 : decode cX6_needed 43 = .ok (.iload 5, 2) := by decide +kernel
theorem dX6_needed_45 : decode cX6_needed 45 = .ok (.iconst 2, 1) := by decide +kernel
theorem dX6_needed_46 : decode cX6_needed 46 = .ok (.iadd, 1) := by decide +kernel
theorem dX6_needed_47 : decode cX6_needed 47 = .ok (.iload_n 3, 1) := by decide +kernel
theorem dX6_needed_48 : decode cX6_needed 48 = .ok (.if_icmp .le 10, 3) := by decide +kernel
theorem dX6_needed_51 : decode cX6_needed 51 = .ok (.iinc 2 1, 3) := by decide +kernel
theorem dX6_needed_54 : decode cX6_needed 54 = .ok (.sipush 502, 3) := by decide +kernel
theorem dX6_needed_57 : decode cX6_needed 57 = .ok (.istore_n 3, 1) := by decide +kernel
theorem dX6_needed_58 : decode cX6_needed 58 = .ok (.iload_n 3, 1) := by decide +kernel
theorem dX6_needed_59 : decode cX6_needed 59 = .ok (.iload 5, 2) := by decide +kernel
theorem dX6_needed_61 : decode cX6_needed 61 = .ok (.ifCond .le 10, 3) := by decide +kernel
theorem dX6_needed_64 : decode cX6_needed 64 = .ok (.iload 5, 2) := by decide +kernel
theorem dX6_needed_66 : decode cX6_needed 66 = .ok (.iconst 2, 1) := by decide +kernel
theorem dX6_needed_67 : decode cX6_needed 67 = .ok (.iadd, 1) := by decide +kernel
theorem dX6_needed_68 : decode cX6_needed 68 = .ok (.goto 4, 3) := by decide +kernel
theorem dX6_needed_71 : decode cX6_needed 71 = .ok (.iconst 0, 1) := by decide +kernel
theorem dX6_needed_72 : decode cX6_needed 72 = .ok (.isub, 1) := by decide +kernel
theorem dX6_needed_73 : decode cX6_needed 73 = .ok (.istore_n 3, 1) := by decide +kernel
theorem dX6_needed_74 : decode cX6_needed 74 = .ok (.iinc 4 1, 3) := by decide +kernel
theorem dX6_needed_77 : decode cX6_needed 77 = .ok (.goto (-70), 3) := by decide +kernel
theorem dX6_needed_80 : decode cX6_needed 80 = .ok (.iload_n 2, 1) := by decide +kernel
theorem dX6_needed_81 : decode cX6_needed 81 = .ok (.ireturn, 1) := by decide +kernel
theorem dX6_fillFrom_0 : decode cX6_fillFrom 0 = .ok (.iload_n 1, 1) := by decide +kernel
theorem dX6_fillFrom_1 : decode cX6_fillFrom 1 = .ok (.istore_n 2, 1) := by decide +kernel
theorem dX6_fillFrom_2 : decode cX6_fillFrom 2 = .ok (.bipush 6, 2) := by decide +kernel
theorem dX6_fillFrom_4 : decode cX6_fillFrom 4 = .ok (.istore_n 3, 1) := by decide +kernel
theorem dX6_fillFrom_5 : decode cX6_fillFrom 5 = .ok (.iload_n 2, 1) := by decide +kernel
theorem dX6_fillFrom_6 : decode cX6_fillFrom 6 = .ok (.aload_n 0, 1) := by decide +kernel
theorem dX6_fillFrom_7 : decode cX6_fillFrom 7 = .ok (.getfield 74, 3) := by decide +kernel
theorem dX6_fillFrom_10 : decode cX6_fillFrom 10 = .ok (.if_icmp .ge 156, 3) := by decide +kernel
theorem dX6_fillFrom_13 : decode cX6_fillFrom 13 = .ok (.iload_n 3, 1) := by decide +kernel
theorem dX6_fillFrom_14 : decode cX6_fillFrom 14 = .ok (.iconst 2, 1) := by decide +kernel
theorem dX6_fillFrom_15 : decode cX6_fillFrom 15 = .ok (.iadd, 1) := by decide +kernel
theorem dX6_fillFrom_16 : decode cX6_fillFrom 16 = .ok (.aload_n 0, 1) := by decide +kernel
theorem dX6_fillFrom_17 : decode cX6_fillFrom 17 = .ok (.getfield 40, 3) := by decide +kernel
theorem dX6_fillFrom_20 : decode cX6_fillFrom 20 = .ok (.iload_n 2, 1) := by decide +kernel
theorem dX6_fillFrom_21 : decode cX6_fillFrom 21 = .ok (.iaload, 1) := by decide +kernel
theorem dX6_fillFrom_22 : decode cX6_fillFrom 22 = .ok (.iadd, 1) := by decide +kernel
theorem dX6_fillFrom_23 : decode cX6_fillFrom 23 = .ok (.sipush 508, 3) := by decide +kernel
theorem dX6_fillFrom_26 : decode cX6_fillFrom 26 = .ok (.if_icmp .gt 140, 3) := by decide +kernel
theorem dX6_fillFrom_29 : decode cX6_fillFrom 29 = .ok (.aload_n 0, 1) := by decide +kernel
theorem dX6_fillFrom_30 : decode cX6_fillFrom 30 = .ok (.iload_n 3, 1) := by decide +kernel
theorem dX6_fillFrom_31 : decode cX6_fillFrom 31 = .ok (.aload_n 0, 1) := by decide +kernel
theorem dX6_fillFrom_32 : decode cX6_fillFrom 32 = .ok (.getfield 37, 3) := by decide +kernel
theorem dX6_fillFrom_35 : decode cX6_fillFrom 35 = .ok (.iload_n 2, 1) := by decide +kernel
theorem dX6_fillFrom_36 : decode cX6_fillFrom 36 = .ok (.iaload, 1) := by decide +kernel
theorem dX6_fillFrom_37 : decode cX6_fillFrom 37 = .ok (.invokevirtual 119, 3) := by decide +kernel
theorem dX6_fillFrom_40 : decode cX6_fillFrom 40 = .ok (.aload_n 0, 1) := by decide +kernel
theorem dX6_fillFrom_41 : decode cX6_fillFrom 41 = .ok (.iload_n 3, 1) := by decide +kernel
theorem dX6_fillFrom_42 : decode cX6_fillFrom 42 = .ok (.iconst 1, 1) := by decide +kernel
theorem dX6_fillFrom_43 : decode cX6_fillFrom 43 = .ok (.iadd, 1) := by decide +kernel
theorem dX6_fillFrom_44 : decode cX6_fillFrom 44 = .ok (.aload_n 0, 1) := by decide +kernel
theorem dX6_fillFrom_45 : decode cX6_fillFrom 45 = .ok (.getfield 40, 3) := by decide +kernel
theorem dX6_fillFrom_48 : decode cX6_fillFrom 48 = .ok (.iload_n 2, 1) := by decide +kernel
theorem dX6_fillFrom_49 : decode cX6_fillFrom 49 = .ok (.iaload, 1) := by decide +kernel
theorem dX6_fillFrom_50 : decode cX6_fillFrom 50 = .ok (.invokevirtual 119, 3) := by decide +kernel
theorem dX6_fillFrom_53 : decode cX6_fillFrom 53 = .ok (.iconst 0, 1) := by decide +kernel
theorem dX6_fillFrom_54 : decode cX6_fillFrom 54 = .ok (.istore 4, 2) := by decide +kernel
theorem dX6_fillFrom_56 : decode cX6_fillFrom 56 = .ok (.iload 4, 2) := by decide +kernel
theorem dX6_fillFrom_58 : decode cX6_fillFrom 58 = .ok (.aload_n 0, 1) := by decide +kernel
theorem dX6_fillFrom_59 : decode cX6_fillFrom 59 = .ok (.getfield 40, 3) := by decide +kernel
theorem dX6_fillFrom_62 : decode cX6_fillFrom 62 = .ok (.iload_n 2, 1) := by decide +kernel
theorem dX6_fillFrom_63 : decode cX6_fillFrom 63 = .ok (.iaload, 1) := by decide +kernel
theorem dX6_fillFrom_64 : decode cX6_fillFrom 64 = .ok (.if_icmp .ge 41, 3) := by decide +kernel
theorem dX6_fillFrom_67 : decode cX6_fillFrom 67 = .ok (.aload_n 0, 1) := by decide +kernel
theorem dX6_fillFrom_68 : decode cX6_fillFrom 68 = .ok (.iload_n 3, 1) := by decide +kernel
theorem dX6_fillFrom_69 : decode cX6_fillFrom 69 = .ok (.iconst 2, 1) := by decide +kernel
theorem dX6_fillFrom_70 : decode cX6_fillFrom 70 = .ok (.iadd, 1) := by decide +kernel
theorem dX6_fillFrom_71 : decode cX6_fillFrom 71 = .ok (.iload 4, 2) := by decide +kernel
theorem dX6_fillFrom_73 : decode cX6_fillFrom 73 = .ok (.iadd, 1) := by decide +kernel
theorem dX6_fillFrom_74 : decode cX6_fillFrom 74 = .ok (.aload_n 0, 1) := by decide +kernel
theorem dX6_fillFrom_75 : decode cX6_fillFrom 75 = .ok (.getfield 43, 3) := by decide +kernel
theorem dX6_fillFrom_78 : decode cX6_fillFrom 78 = .ok (.iload_n 2, 1) := by decide +kernel
theorem dX6_fillFrom_79 : decode cX6_fillFrom 79 = .ok (.laload, 1) := by decide +kernel
theorem dX6_fillFrom_80 : decode cX6_fillFrom 80 = .ok (.bipush 8, 2) := by decide +kernel
theorem dX6_fillFrom_82 : decode cX6_fillFrom 82 = .ok (.aload_n 0, 1) := by decide +kernel
theorem dX6_fillFrom_83 : decode cX6_fillFrom 83 = .ok (.getfield 40, 3) := by decide +kernel
theorem dX6_fillFrom_86 : decode cX6_fillFrom 86 = .ok (.iload_n 2, 1) := by decide +kernel
theorem dX6_fillFrom_87 : decode cX6_fillFrom 87 = .ok (.iaload, 1) := by decide +kernel
theorem dX6_fillFrom_88 : decode cX6_fillFrom 88 = .ok (.iconst 1, 1) := by decide +kernel
theorem dX6_fillFrom_89 : decode cX6_fillFrom 89 = .ok (.isub, 1) := by decide +kernel
theorem dX6_fillFrom_90 : decode cX6_fillFrom 90 = .ok (.iload 4, 2) := by decide +kernel
theorem dX6_fillFrom_92 : decode cX6_fillFrom 92 = .ok (.isub, 1) := by decide +kernel
theorem dX6_fillFrom_93 : decode cX6_fillFrom 93 = .ok (.imul, 1) := by decide +kernel
theorem dX6_fillFrom_94 : decode cX6_fillFrom 94 = .ok (.lshr, 1) := by decide +kernel
theorem dX6_fillFrom_95 : decode cX6_fillFrom 95 = .ok (.l2i, 1) := by decide +kernel
theorem dX6_fillFrom_96 : decode cX6_fillFrom 96 = .ok (.invokevirtual 119, 3) := by decide +kernel
theorem dX6_fillFrom_99 : decode cX6_fillFrom 99 = .ok (.iinc 4 1, 3) := by decide +kernel
theorem dX6_fillFrom_102 : decode cX6_fillFrom 102 = .ok (.goto (-46), 3) := by decide +kernel
theorem dX6_fillFrom_105 : decode cX6_fillFrom 105 = .ok (.aload_n 0, 1) := by decide +kernel
theorem dX6_fillFrom_106 : decode cX6_fillFrom 106 = .ok (.getfield 24, 3) := by decide +kernel
theorem dX6_fillFrom_109 : decode cX6_fillFrom 109 = .ok (.aload_n 0, 1) := by decide +kernel
theorem dX6_fillFrom_110 : decode cX6_fillFrom 110 = .ok (.getfield 71, 3) := by decide +kernel
theorem dX6_fillFrom_113 : decode cX6_fillFrom 113 = .ok (.iload_n 2, 1) := by decide +kernel
theorem dX6_fillFrom_114 : decode cX6_fillFrom 114 = .ok (.iadd, 1) := by decide +kernel
theorem dX6_fillFrom_115 : decode cX6_fillFrom 115 = .ok (.aload_n 0, 1) := by decide +kernel
theorem dX6_fillFrom_116 : decode cX6_fillFrom 116 = .ok (.getfield 68, 3) := by decide +kernel
theorem dX6_fillFrom_119 : decode cX6_fillFrom 119 = .ok (.iastore, 1) := by decide +kernel
theorem dX6_fillFrom_120 : decode cX6_fillFrom 120 = .ok (.aload_n 0, 1) := by decide +kernel
theorem dX6_fillFrom_121 : decode cX6_fillFrom 121 = .ok (.getfield 27, 3) := by decide +kernel
theorem dX6_fillFrom_124 : decode cX6_fillFrom 124 = .ok (.aload_n 0, 1) := by decide +kernel
theorem dX6_fillFrom_125 : decode cX6_fillFrom 125 = .ok (.getfield 71, 3) := by decide +kernel
theorem dX6_fillFrom_128 : decode cX6_fillFrom 128 = .ok (.iload_n 2, 1) := by decide +kernel
theorem dX6_fillFrom_129 : decode cX6_fillFrom 129 = .ok (.iadd, 1) := by decide +kernel
theorem dX6_fillFrom_130 : decode cX6_fillFrom 130 = .ok (.iload_n 3, 1) := by decide +kernel
theorem dX6_fillFrom_131 : decode cX6_fillFrom 131 = .ok (.iastore, 1) := by decide +kernel
theorem dX6_fillFrom_132 : decode cX6_fillFrom 132 = .ok (.aload_n 0, 1) := by decide +kernel
theorem dX6_fillFrom_133 : decode cX6_fillFrom 133 = .ok (.getfield 30, 3) := by decide +kernel
theorem dX6_fillFrom_136 : decode cX6_fillFrom 136 = .ok (.aload_n 0, 1) := by decide +kernel
theorem dX6_fillFrom_137 : decode cX6_fillFrom 137 = .ok (.getfield 71, 3) := by decide +kernel
theorem dX6_fillFrom_140 : decode cX6_fillFrom 140 = .ok (.iload_n 2, 1) := by decide +kernel
theorem dX6_fillFrom_141 : decode cX6_fillFrom 141 = .ok (.iadd, 1) := by decide +kernel
theorem dX6_fillFrom_142 : decode cX6_fillFrom 142 = .ok (.aload_n 0, 1) := by decide +kernel
theorem dX6_fillFrom_143 : decode cX6_fillFrom 143 = .ok (.getfield 40, 3) := by decide +kernel
theorem dX6_fillFrom_146 : decode cX6_fillFrom 146 = .ok (.iload_n 2, 1) := by decide +kernel
theorem dX6_fillFrom_147 : decode cX6_fillFrom 147 = .ok (.iaload, 1) := by decide +kernel
theorem dX6_fillFrom_148 : decode cX6_fillFrom 148 = .ok (.iastore, 1) := by decide +kernel
theorem dX6_fillFrom_149 : decode cX6_fillFrom 149 = .ok (.iload_n 3, 1) := by decide +kernel
theorem dX6_fillFrom_150 : decode cX6_fillFrom 150 = .ok (.iconst 2, 1) := by decide +kernel
theorem dX6_fillFrom_151 : decode cX6_fillFrom 151 = .ok (.aload_n 0, 1) := by decide +kernel
theorem dX6_fillFrom_152 : decode cX6_fillFrom 152 = .ok (.getfield 40, 3) := by decide +kernel
theorem dX6_fillFrom_155 : decode cX6_fillFrom 155 = .ok (.iload_n 2, 1) := by decide +kernel
theorem dX6_fillFrom_156 : decode cX6_fillFrom 156 = .ok (.iaload, 1) := by decide +kernel
theorem dX6_fillFrom_157 : decode cX6_fillFrom 157 = .ok (.iadd, 1) := by decide +kernel
theorem dX6_fillFrom_158 : decode cX6_fillFrom 158 = .ok (.iadd, 1) := by decide +kernel
theorem dX6_fillFrom_159 : decode cX6_fillFrom 159 = .ok (.istore_n 3, 1) := by decide +kernel
theorem dX6_fillFrom_160 : decode cX6_fillFrom 160 = .ok (.iinc 2 1, 3) := by decide +kernel
theorem dX6_fillFrom_163 : decode cX6_fillFrom 163 = .ok (.goto (-158), 3) := by decide +kernel
theorem dX6_fillFrom_166 : decode cX6_fillFrom 166 = .ok (.aload_n 0, 1) := by decide +kernel
theorem dX6_fillFrom_167 : decode cX6_fillFrom 167 = .ok (.iload_n 3, 1) := by decide +kernel
theorem dX6_fillFrom_168 : decode cX6_fillFrom 168 = .ok (.bipush 6, 2) := by decide +kernel
theorem dX6_fillFrom_170 : decode cX6_fillFrom 170 = .ok (.isub, 1) := by decide +kernel
theorem dX6_fillFrom_171 : decode cX6_fillFrom 171 = .ok (.invokevirtual 132, 3) := by decide +kernel
theorem dX6_fillFrom_174 : decode cX6_fillFrom 174 = .ok (.iload_n 2, 1) := by decide +kernel
theorem dX6_fillFrom_175 : decode cX6_fillFrom 175 = .ok (.ireturn, 1) := by decide +kernel
theorem dX6_repair_0 : decode cX6_repair 0 = .ok (.aload_n 0, 1) := by decide +kernel
theorem dX6_repair_1 : decode cX6_repair 1 = .ok (.iload_n 1, 1) := by decide +kernel
theorem dX6_repair_2 : decode cX6_repair 2 = .ok (.invokevirtual 145, 3) := by decide +kernel
theorem dX6_repair_5 : decode cX6_repair 5 = .ok (.istore_n 2, 1) := by decide +kernel
theorem dX6_repair_6 : decode cX6_repair 6 = .ok (.iload_n 2, 1) := by decide +kernel
theorem dX6_repair_7 : decode cX6_repair 7 = .ok (.ifCond .ge 5, 3) := by decide +kernel
theorem dX6_repair_10 : decode cX6_repair 10 = .ok (.iconst 0, 1) := by decide +kernel
theorem dX6_repair_11 : decode cX6_repair 11 = .ok (.ireturn, 1) := by decide +kernel
theorem dX6_repair_12 : decode cX6_repair 12 = .ok (.aload_n 0, 1) := by decide +kernel
theorem dX6_repair_13 : decode cX6_repair 13 = .ok (.iconst 1, 1) := by decide +kernel
theorem dX6_repair_14 : decode cX6_repair 14 = .ok (.iload_n 2, 1) := by decide +kernel
theorem dX6_repair_15 : decode cX6_repair 15 = .ok (.isub, 1) := by decide +kernel
theorem dX6_repair_16 : decode cX6_repair 16 = .ok (.iload_n 1, 1) := by decide +kernel
theorem dX6_repair_17 : decode cX6_repair 17 = .ok (.invokevirtual 115, 3) := by decide +kernel
theorem dX6_repair_20 : decode cX6_repair 20 = .ok (.ifCond .ne 54, 3) := by decide +kernel
theorem dX6_repair_23 : decode cX6_repair 23 = .ok (.iconst 0, 1) := by decide +kernel
theorem dX6_repair_24 : decode cX6_repair 24 = .ok (.istore_n 3, 1) := by decide +kernel
theorem dX6_repair_25 : decode cX6_repair 25 = .ok (.iload_n 3, 1) := by decide +kernel
theorem dX6_repair_26 : decode cX6_repair 26 = .ok (.sipush 512, 3) := by decide +kernel
theorem dX6_repair_29 : decode cX6_repair 29 = .ok (.if_icmp .ge 35, 3) := by decide +kernel
theorem dX6_repair_32 : decode cX6_repair 32 = .ok (.aload_n 0, 1) := by decide +kernel
theorem dX6_repair_33 : decode cX6_repair 33 = .ok (.getfield 8, 3) := by decide +kernel
theorem dX6_repair_36 : decode cX6_repair 36 = .ok (.iconst 1, 1) := by decide +kernel
theorem dX6_repair_37 : decode cX6_repair 37 = .ok (.iload_n 2, 1) := by decide +kernel
theorem dX6_repair_38 : decode cX6_repair 38 = .ok (.isub, 1) := by decide +kernel
theorem dX6_repair_39 : decode cX6_repair 39 = .ok (.iload_n 1, 1) := by decide +kernel
theorem dX6_repair_40 : decode cX6_repair 40 = .ok (.invokestatic 105, 3) := by decide +kernel
theorem dX6_repair_43 : decode cX6_repair 43 = .ok (.iload_n 3, 1) := by decide +kernel
theorem dX6_repair_44 : decode cX6_repair 44 = .ok (.iadd, 1) := by decide +kernel
theorem dX6_repair_45 : decode cX6_repair 45 = .ok (.aload_n 0, 1) := by decide +kernel
theorem dX6_repair_46 : decode cX6_repair 46 = .ok (.getfield 8, 3) := by decide +kernel
theorem dX6_repair_49 : decode cX6_repair 49 = .ok (.iload_n 2, 1) := by decide +kernel
theorem dX6_repair_50 : decode cX6_repair 50 = .ok (.iload_n 1, 1) := by decide +kernel
theorem dX6_repair_51 : decode cX6_repair 51 = .ok (.invokestatic 105, 3) := by decide +kernel
theorem dX6_repair_54 : decode cX6_repair 54 = .ok (.iload_n 3, 1) := by decide +kernel
theorem dX6_repair_55 : decode cX6_repair 55 = .ok (.iadd, 1) := by decide +kernel
theorem dX6_repair_56 : decode cX6_repair 56 = .ok (.iaload, 1) := by decide +kernel
theorem dX6_repair_57 : decode cX6_repair 57 = .ok (.iastore, 1) := by decide +kernel
theorem dX6_repair_58 : decode cX6_repair 58 = .ok (.iinc 3 1, 3) := by decide +kernel
theorem dX6_repair_61 : decode cX6_repair 61 = .ok (.goto (-36), 3) := by decide +kernel
theorem dX6_repair_64 : decode cX6_repair 64 = .ok (.aload_n 0, 1) := by decide +kernel
theorem dX6_repair_65 : decode cX6_repair 65 = .ok (.dup, 1) := by decide +kernel
theorem dX6_repair_66 : decode cX6_repair 66 = .ok (.getfield 87, 3) := by decide +kernel
theorem dX6_repair_69 : decode cX6_repair 69 = .ok (.iconst 1, 1) := by decide +kernel
theorem dX6_repair_70 : decode cX6_repair 70 = .ok (.iadd, 1) := by decide +kernel
theorem dX6_repair_71 : decode cX6_repair 71 = .ok (.putfield 87, 3) := by decide +kernel
theorem dX6_repair_74 : decode cX6_repair 74 = .ok (.iconst 1, 1) := by decide +kernel
theorem dX6_repair_75 : decode cX6_repair 75 = .ok (.ireturn, 1) := by decide +kernel
theorem dX6_takeState_0 : decode cX6_takeState 0 = .ok (.aload_n 0, 1) := by decide +kernel
theorem dX6_takeState_1 : decode cX6_takeState 1 = .ok (.iload_n 1, 1) := by decide +kernel
theorem dX6_takeState_2 : decode cX6_takeState 2 = .ok (.invokevirtual 148, 3) := by decide +kernel
theorem dX6_takeState_5 : decode cX6_takeState 5 = .ok (.ifCond .ne 4, 3) := by decide +kernel
theorem dX6_takeState_8 : decode cX6_takeState 8 = .ok (.return_, 1) := by decide +kernel
theorem dX6_takeState_9 : decode cX6_takeState 9 = .ok (.iconst 0, 1) := by decide +kernel
theorem dX6_takeState_10 : decode cX6_takeState 10 = .ok (.iload_n 1, 1) := by decide +kernel
theorem dX6_takeState_11 : decode cX6_takeState 11 = .ok (.invokestatic 105, 3) := by decide +kernel
theorem dX6_takeState_14 : decode cX6_takeState 14 = .ok (.istore_n 2, 1) := by decide +kernel
theorem dX6_takeState_15 : decode cX6_takeState 15 = .ok (.aload_n 0, 1) := by decide +kernel
theorem dX6_takeState_16 : decode cX6_takeState 16 = .ok (.getfield 77, 3) := by decide +kernel
theorem dX6_takeState_19 : decode cX6_takeState 19 = .ok (.ifCond .eq 15, 3) := by decide +kernel
theorem dX6_takeState_22 : decode cX6_takeState 22 = .ok (.aload_n 0, 1) := by decide +kernel
theorem dX6_takeState_23 : decode cX6_takeState 23 = .ok (.iload_n 2, 1) := by decide +kernel
theorem dX6_takeState_24 : decode cX6_takeState 24 = .ok (.invokevirtual 98, 3) := by decide +kernel
theorem dX6_takeState_27 : decode cX6_takeState 27 = .ok (.aload_n 0, 1) := by decide +kernel
theorem dX6_takeState_28 : decode cX6_takeState 28 = .ok (.getfield 77, 3) := by decide +kernel
theorem dX6_takeState_31 : decode cX6_takeState 31 = .ok (.if_icmp .le 7, 3) := by decide +kernel
theorem dX6_takeState_34 : decode cX6_takeState 34 = .ok (.iconst 1, 1) := by decide +kernel
theorem dX6_takeState_35 : decode cX6_takeState 35 = .ok (.goto 4, 3) := by decide +kernel
theorem dX6_takeState_38 : decode cX6_takeState 38 = .ok (.iconst 0, 1) := by decide +kernel
theorem dX6_takeState_39 : decode cX6_takeState 39 = .ok (.istore_n 3, 1) := by decide +kernel
theorem dX6_takeState_40 : decode cX6_takeState 40 = .ok (.iload_n 3, 1) := by decide +kernel
theorem dX6_takeState_41 : decode cX6_takeState 41 = .ok (.ifCond .ne 4, 3) := by decide +kernel
theorem dX6_takeState_44 : decode cX6_takeState 44 = .ok (.return_, 1) := by decide +kernel
theorem dX6_takeState_45 : decode cX6_takeState 45 = .ok (.aload_n 0, 1) := by decide +kernel
theorem dX6_takeState_46 : decode cX6_takeState 46 = .ok (.aload_n 0, 1) := by decide +kernel
theorem dX6_takeState_47 : decode cX6_takeState 47 = .ok (.iload_n 2, 1) := by decide +kernel
theorem dX6_takeState_48 : decode cX6_takeState 48 = .ok (.invokevirtual 98, 3) := by decide +kernel
theorem dX6_takeState_51 : decode cX6_takeState 51 = .ok (.putfield 77, 3) := by decide +kernel
theorem dX6_takeState_54 : decode cX6_takeState 54 = .ok (.aload_n 0, 1) := by decide +kernel
theorem dX6_takeState_55 : decode cX6_takeState 55 = .ok (.lconst 0, 1) := by decide +kernel
theorem dX6_takeState_56 : decode cX6_takeState 56 = .ok (.putfield 80, 3) := by decide +kernel
theorem dX6_takeState_59 : decode cX6_takeState 59 = .ok (.iconst 0, 1) := by decide +kernel
theorem dX6_takeState_60 : decode cX6_takeState 60 = .ok (.istore 4, 2) := by decide +kernel
theorem dX6_takeState_62 : decode cX6_takeState 62 = .ok (.iload 4, 2) := by decide +kernel
theorem dX6_takeState_64 : decode cX6_takeState 64 = .ok (.bipush 8, 2) := by decide +kernel
theorem dX6_takeState_66 : decode cX6_takeState 66 = .ok (.if_icmp .ge 34, 3) := by decide +kernel
theorem dX6_takeState_69 : decode cX6_takeState 69 = .ok (.aload_n 0, 1) := by decide +kernel
theorem dX6_takeState_70 : decode cX6_takeState 70 = .ok (.aload_n 0, 1) := by decide +kernel
theorem dX6_takeState_71 : decode cX6_takeState 71 = .ok (.getfield 80, 3) := by decide +kernel
theorem dX6_takeState_74 : decode cX6_takeState 74 = .ok (.bipush 8, 2) := by decide +kernel
theorem dX6_takeState_76 : decode cX6_takeState 76 = .ok (.lshl, 1) := by decide +kernel
theorem dX6_takeState_77 : decode cX6_takeState 77 = .ok (.aload_n 0, 1) := by decide +kernel
theorem dX6_takeState_78 : decode cX6_takeState 78 = .ok (.getfield 8, 3) := by decide +kernel
theorem dX6_takeState_81 : decode cX6_takeState 81 = .ok (.iload_n 2, 1) := by decide +kernel
theorem dX6_takeState_82 : decode cX6_takeState 82 = .ok (.bipush 6, 2) := by decide +kernel
theorem dX6_takeState_84 : decode cX6_takeState 84 = .ok (.iadd, 1) := by decide +kernel
theorem dX6_takeState_85 : decode cX6_takeState 85 = .ok (.iload 4, 2) := by decide +kernel
theorem dX6_takeState_87 : decode cX6_takeState 87 = .ok (.iadd, 1) := by decide +kernel
theorem dX6_takeState_88 : decode cX6_takeState 88 = .ok (.iaload, 1) := by decide +kernel
theorem dX6_takeState_89 : decode cX6_takeState 89 = .ok (.i2l, 1) := by decide +kernel
theorem dX6_takeState_90 : decode cX6_takeState 90 = .ok (.lor, 1) := by decide +kernel
theorem dX6_takeState_91 : decode cX6_takeState 91 = .ok (.putfield 80, 3) := by decide +kernel
theorem dX6_takeState_94 : decode cX6_takeState 94 = .ok (.iinc 4 1, 3) := by decide +kernel
theorem dX6_takeState_97 : decode cX6_takeState 97 = .ok (.goto (-35), 3) := by decide +kernel
theorem dX6_takeState_100 : decode cX6_takeState 100 = .ok (.return_, 1) := by decide +kernel
theorem dX6_find_0 : decode cX6_find 0 = .ok (.aload_n 0, 1) := by decide +kernel
theorem dX6_find_1 : decode cX6_find 1 = .ok (.aload_n 0, 1) := by decide +kernel
theorem dX6_find_2 : decode cX6_find 2 = .ok (.getfield 24, 3) := by decide +kernel
theorem dX6_find_5 : decode cX6_find 5 = .ok (.iload_n 1, 1) := by decide +kernel
theorem dX6_find_6 : decode cX6_find 6 = .ok (.iaload, 1) := by decide +kernel
theorem dX6_find_7 : decode cX6_find 7 = .ok (.invokevirtual 145, 3) := by decide +kernel
theorem dX6_find_10 : decode cX6_find 10 = .ok (.istore_n 2, 1) := by decide +kernel
theorem dX6_find_11 : decode cX6_find 11 = .ok (.iload_n 2, 1) := by decide +kernel
theorem dX6_find_12 : decode cX6_find 12 = .ok (.ifCond .ge 5, 3) := by decide +kernel
theorem dX6_find_15 : decode cX6_find 15 = .ok (.iconst (-1), 1) := by decide +kernel
theorem dX6_find_16 : decode cX6_find 16 = .ok (.ireturn, 1) := by decide +kernel
theorem dX6_find_17 : decode cX6_find 17 = .ok (.aload_n 0, 1) := by decide +kernel
theorem dX6_find_18 : decode cX6_find 18 = .ok (.dup, 1) := by decide +kernel
theorem dX6_find_19 : decode cX6_find 19 = .ok (.getfield 84, 3) := by decide +kernel
theorem dX6_find_22 : decode cX6_find 22 = .ok (.iload_n 2, 1) := by decide +kernel
theorem dX6_find_23 : decode cX6_find 23 = .ok (.iadd, 1) := by decide +kernel
theorem dX6_find_24 : decode cX6_find 24 = .ok (.putfield 84, 3) := by decide +kernel
theorem dX6_find_27 : decode cX6_find 27 = .ok (.iload_n 2, 1) := by decide +kernel
theorem dX6_find_28 : decode cX6_find 28 = .ok (.aload_n 0, 1) := by decide +kernel
theorem dX6_find_29 : decode cX6_find 29 = .ok (.getfield 24, 3) := by decide +kernel
theorem dX6_find_32 : decode cX6_find 32 = .ok (.iload_n 1, 1) := by decide +kernel
theorem dX6_find_33 : decode cX6_find 33 = .ok (.iaload, 1) := by decide +kernel
theorem dX6_find_34 : decode cX6_find 34 = .ok (.invokestatic 105, 3) := by decide +kernel
theorem dX6_find_37 : decode cX6_find 37 = .ok (.aload_n 0, 1) := by decide +kernel
theorem dX6_find_38 : decode cX6_find 38 = .ok (.getfield 27, 3) := by decide +kernel
theorem dX6_find_41 : decode cX6_find 41 = .ok (.iload_n 1, 1) := by decide +kernel
theorem dX6_find_42 : decode cX6_find 42 = .ok (.iaload, 1) := by decide +kernel
theorem dX6_find_43 : decode cX6_find 43 = .ok (.iadd, 1) := by decide +kernel
theorem dX6_find_44 : decode cX6_find 44 = .ok (.ireturn, 1) := by decide +kernel
theorem dX6_refuses_0 : decode cX6_refuses 0 = .ok (.iload_n 1, 1) := by decide +kernel
theorem dX6_refuses_1 : decode cX6_refuses 1 = .ok (.iconst 0, 1) := by decide +kernel
theorem dX6_refuses_2 : decode cX6_refuses 2 = .ok (.aload_n 0, 1) := by decide +kernel
theorem dX6_refuses_3 : decode cX6_refuses 3 = .ok (.getfield 71, 3) := by decide +kernel
theorem dX6_refuses_6 : decode cX6_refuses 6 = .ok (.iconst 1, 1) := by decide +kernel
theorem dX6_refuses_7 : decode cX6_refuses 7 = .ok (.isub, 1) := by decide +kernel
theorem dX6_refuses_8 : decode cX6_refuses 8 = .ok (.invokestatic 54, 3) := by decide +kernel
theorem dX6_refuses_11 : decode cX6_refuses 11 = .ok (.ifCond .ne 7, 3) := by decide +kernel
theorem dX6_refuses_14 : decode cX6_refuses 14 = .ok (.iconst 1, 1) := by decide +kernel
theorem dX6_refuses_15 : decode cX6_refuses 15 = .ok (.goto 4, 3) := by decide +kernel
theorem dX6_refuses_18 : decode cX6_refuses 18 = .ok (.iconst 0, 1) := by decide +kernel
theorem dX6_refuses_19 : decode cX6_refuses 19 = .ok (.istore 4, 2) := by decide +kernel
theorem dX6_refuses_21 : decode cX6_refuses 21 = .ok (.aload_n 0, 1) := by decide +kernel
theorem dX6_refuses_22 : decode cX6_refuses 22 = .ok (.aload_n 0, 1) := by decide +kernel
theorem dX6_refuses_23 : decode cX6_refuses 23 = .ok (.getfield 65, 3) := by decide +kernel
theorem dX6_refuses_26 : decode cX6_refuses 26 = .ok (.ifCond .ne 7, 3) := by decide +kernel
theorem dX6_refuses_29 : decode cX6_refuses 29 = .ok (.iload_n 3, 1) := by decide +kernel
theorem dX6_refuses_30 : decode cX6_refuses 30 = .ok (.goto 21, 3) := by decide +kernel
theorem dX6_refuses_33 : decode cX6_refuses 33 = .ok (.iload 4, 2) := by decide +kernel
theorem dX6_refuses_35 : decode cX6_refuses 35 = .ok (.ifCond .eq 7, 3) := by decide +kernel
theorem dX6_refuses_38 : decode cX6_refuses 38 = .ok (.iconst 1, 1) := by decide +kernel
theorem dX6_refuses_39 : decode cX6_refuses 39 = .ok (.goto 12, 3) := by decide +kernel
theorem dX6_refuses_42 : decode cX6_refuses 42 = .ok (.iload_n 2, 1) := by decide +kernel
theorem dX6_refuses_43 : decode cX6_refuses 43 = .ok (.ifCond .eq 7, 3) := by decide +kernel
theorem dX6_refuses_46 : decode cX6_refuses 46 = .ok (.iconst 2, 1) := by decide +kernel
theorem dX6_refuses_47 : decode cX6_refuses 47 = .ok (.goto 4, 3) := by decide +kernel
theorem dX6_refuses_50 : decode cX6_refuses 50 = .ok (.iconst 0, 1) := by decide +kernel
theorem dX6_refuses_51 : decode cX6_refuses 51 = .ok (.putfield 51, 3) := by decide +kernel
theorem dX6_refuses_54 : decode cX6_refuses 54 = .ok (.aload_n 0, 1) := by decide +kernel
theorem dX6_refuses_55 : decode cX6_refuses 55 = .ok (.getfield 51, 3) := by decide +kernel
theorem dX6_refuses_58 : decode cX6_refuses 58 = .ok (.ifCond .le 7, 3) := by decide +kernel
theorem dX6_refuses_61 : decode cX6_refuses 61 = .ok (.iconst 1, 1) := by decide +kernel
theorem dX6_refuses_62 : decode cX6_refuses 62 = .ok (.goto 4, 3) := by decide +kernel
theorem dX6_refuses_65 : decode cX6_refuses 65 = .ok (.iconst 0, 1) := by decide +kernel
theorem dX6_refuses_66 : decode cX6_refuses 66 = .ok (.ireturn, 1) := by decide +kernel
theorem dX6_inRoom_0 : decode cX6_inRoom 0 = .ok (.iconst 0, 1) := by decide +kernel
theorem dX6_inRoom_1 : decode cX6_inRoom 1 = .ok (.istore_n 1, 1) := by decide +kernel
theorem dX6_inRoom_2 : decode cX6_inRoom 2 = .ok (.iconst 0, 1) := by decide +kernel
theorem dX6_inRoom_3 : decode cX6_inRoom 3 = .ok (.istore_n 2, 1) := by decide +kernel
theorem dX6_inRoom_4 : decode cX6_inRoom 4 = .ok (.iload_n 2, 1) := by decide +kernel
theorem dX6_inRoom_5 : decode cX6_inRoom 5 = .ok (.aload_n 0, 1) := by decide +kernel
theorem dX6_inRoom_6 : decode cX6_inRoom 6 = .ok (.getfield 71, 3) := by decide +kernel
theorem dX6_inRoom_9 : decode cX6_inRoom 9 = .ok (.if_icmp .ge 26, 3) := by decide +kernel
theorem dX6_inRoom_12 : decode cX6_inRoom 12 = .ok (.iload_n 1, 1) := by decide +kernel
theorem dX6_inRoom_13 : decode cX6_inRoom 13 = .ok (.aload_n 0, 1) := by decide +kernel
theorem dX6_inRoom_14 : decode cX6_inRoom 14 = .ok (.getfield 33, 3) := by decide +kernel
theorem dX6_inRoom_17 : decode cX6_inRoom 17 = .ok (.iload_n 2, 1) := by decide +kernel
theorem dX6_inRoom_18 : decode cX6_inRoom 18 = .ok (.baload, 1) := by decide +kernel
theorem dX6_inRoom_19 : decode cX6_inRoom 19 = .ok (.ifCond .eq 7, 3) := by decide +kernel
theorem dX6_inRoom_22 : decode cX6_inRoom 22 = .ok (.iconst 1, 1) := by decide +kernel
theorem dX6_inRoom_23 : decode cX6_inRoom 23 = .ok (.goto 4, 3) := by decide +kernel
theorem dX6_inRoom_26 : decode cX6_inRoom 26 = .ok (.iconst 0, 1) := by decide +kernel
theorem dX6_inRoom_27 : decode cX6_inRoom 27 = .ok (.iadd, 1) := by decide +kernel
theorem dX6_inRoom_28 : decode cX6_inRoom 28 = .ok (.istore_n 1, 1) := by decide +kernel
theorem dX6_inRoom_29 : decode cX6_inRoom 29 = .ok (.iinc 2 1, 3) := by decide +kernel
theorem dX6_inRoom_32 : decode cX6_inRoom 32 = .ok (.goto (-28), 3) := by decide +kernel
theorem dX6_inRoom_35 : decode cX6_inRoom 35 = .ok (.iload_n 1, 1) := by decide +kernel
theorem dX6_inRoom_36 : decode cX6_inRoom 36 = .ok (.ireturn, 1) := by decide +kernel
theorem dX6_format_0 : decode cX6_format 0 = .ok (.aload_n 0, 1) := by decide +kernel
theorem dX6_format_1 : decode cX6_format 1 = .ok (.iload_n 1, 1) := by decide +kernel
theorem dX6_format_2 : decode cX6_format 2 = .ok (.bipush 8, 2) := by decide +kernel
theorem dX6_format_4 : decode cX6_format 4 = .ok (.bipush 32, 2) := by decide +kernel
theorem dX6_format_6 : decode cX6_format 6 = .ok (.invokestatic 54, 3) := by decide +kernel
theorem dX6_format_9 : decode cX6_format 9 = .ok (.ifCond .ne 7, 3) := by decide +kernel
theorem dX6_format_12 : decode cX6_format 12 = .ok (.iconst 1, 1) := by decide +kernel
theorem dX6_format_13 : decode cX6_format 13 = .ok (.goto 4, 3) := by decide +kernel
theorem dX6_format_16 : decode cX6_format 16 = .ok (.iconst 0, 1) := by decide +kernel
theorem dX6_format_17 : decode cX6_format 17 = .ok (.iconst 0, 1) := by decide +kernel
theorem dX6_format_18 : decode cX6_format 18 = .ok (.iconst 0, 1) := by decide +kernel
theorem dX6_format_19 : decode cX6_format 19 = .ok (.iconst 0, 1) := by decide +kernel
theorem dX6_format_20 : decode cX6_format 20 = .ok (.invokevirtual 58, 3) := by decide +kernel
theorem dX6_format_23 : decode cX6_format 23 = .ok (.ifCond .eq 4, 3) := by decide +kernel
theorem dX6_format_26 : decode cX6_format 26 = .ok (.return_, 1) := by decide +kernel
theorem dX6_format_27 : decode cX6_format 27 = .ok (.aload_n 0, 1) := by decide +kernel
theorem dX6_format_28 : decode cX6_format 28 = .ok (.iload_n 1, 1) := by decide +kernel
theorem dX6_format_29 : decode cX6_format 29 = .ok (.putfield 62, 3) := by decide +kernel
theorem dX6_format_32 : decode cX6_format 32 = .ok (.aload_n 0, 1) := by decide +kernel
theorem dX6_format_33 : decode cX6_format 33 = .ok (.iconst 1, 1) := by decide +kernel
theorem dX6_format_34 : decode cX6_format 34 = .ok (.putfield 65, 3) := by decide +kernel
theorem dX6_format_37 : decode cX6_format 37 = .ok (.iconst 0, 1) := by decide +kernel
theorem dX6_format_38 : decode cX6_format 38 = .ok (.istore_n 2, 1) := by decide +kernel
theorem dX6_format_39 : decode cX6_format 39 = .ok (.iload_n 2, 1) := by decide +kernel
theorem dX6_format_40 : decode cX6_format 40 = .ok (.ldc 7, 2) := by decide +kernel
theorem dX6_format_42 : decode cX6_format 42 = .ok (.if_icmp .ge 16, 3) := by decide +kernel
theorem dX6_format_45 : decode cX6_format 45 = .ok (.aload_n 0, 1) := by decide +kernel
theorem dX6_format_46 : decode cX6_format 46 = .ok (.getfield 8, 3) := by decide +kernel
theorem dX6_format_49 : decode cX6_format 49 = .ok (.iload_n 2, 1) := by decide +kernel
theorem dX6_format_50 : decode cX6_format 50 = .ok (.iconst 0, 1) := by decide +kernel
theorem dX6_format_51 : decode cX6_format 51 = .ok (.iastore, 1) := by decide +kernel
theorem dX6_format_52 : decode cX6_format 52 = .ok (.iinc 2 1, 3) := by decide +kernel
theorem dX6_format_55 : decode cX6_format 55 = .ok (.goto (-16), 3) := by decide +kernel
theorem dX6_format_58 : decode cX6_format 58 = .ok (.aload_n 0, 1) := by decide +kernel
theorem dX6_format_59 : decode cX6_format 59 = .ok (.iconst 0, 1) := by decide +kernel
theorem dX6_format_60 : decode cX6_format 60 = .ok (.putfield 68, 3) := by decide +kernel
theorem dX6_format_63 : decode cX6_format 63 = .ok (.aload_n 0, 1) := by decide +kernel
theorem dX6_format_64 : decode cX6_format 64 = .ok (.iconst 2, 1) := by decide +kernel
theorem dX6_format_65 : decode cX6_format 65 = .ok (.putfield 17, 3) := by decide +kernel
theorem dX6_format_68 : decode cX6_format 68 = .ok (.aload_n 0, 1) := by decide +kernel
theorem dX6_format_69 : decode cX6_format 69 = .ok (.iconst (-1), 1) := by decide +kernel
theorem dX6_format_70 : decode cX6_format 70 = .ok (.putfield 21, 3) := by decide +kernel
theorem dX6_format_73 : decode cX6_format 73 = .ok (.aload_n 0, 1) := by decide +kernel
theorem dX6_format_74 : decode cX6_format 74 = .ok (.iconst 0, 1) := by decide +kernel
theorem dX6_format_75 : decode cX6_format 75 = .ok (.putfield 71, 3) := by decide +kernel
theorem dX6_format_78 : decode cX6_format 78 = .ok (.aload_n 0, 1) := by decide +kernel
theorem dX6_format_79 : decode cX6_format 79 = .ok (.iconst 0, 1) := by decide +kernel
theorem dX6_format_80 : decode cX6_format 80 = .ok (.putfield 74, 3) := by decide +kernel
theorem dX6_format_83 : decode cX6_format 83 = .ok (.aload_n 0, 1) := by decide +kernel
theorem dX6_format_84 : decode cX6_format 84 = .ok (.iconst 0, 1) := by decide +kernel
theorem dX6_format_85 : decode cX6_format 85 = .ok (.putfield 77, 3) := by decide +kernel
theorem dX6_format_88 : decode cX6_format 88 = .ok (.aload_n 0, 1) := by decide +kernel
theorem dX6_format_89 : decode cX6_format 89 = .ok (.lconst 0, 1) := by decide +kernel
theorem dX6_format_90 : decode cX6_format 90 = .ok (.putfield 80, 3) := by decide +kernel
theorem dX6_format_93 : decode cX6_format 93 = .ok (.aload_n 0, 1) := by decide +kernel
theorem dX6_format_94 : decode cX6_format 94 = .ok (.iconst 0, 1) := by decide +kernel
theorem dX6_format_95 : decode cX6_format 95 = .ok (.putfield 84, 3) := by decide +kernel
theorem dX6_format_98 : decode cX6_format 98 = .ok (.aload_n 0, 1) := by decide +kernel
theorem dX6_format_99 : decode cX6_format 99 = .ok (.iconst 0, 1) := by decide +kernel
theorem dX6_format_100 : decode cX6_format 100 = .ok (.putfield 87, 3) := by decide +kernel
theorem dX6_format_103 : decode cX6_format 103 = .ok (.aload_n 0, 1) := by decide +kernel
theorem dX6_format_104 : decode cX6_format 104 = .ok (.iconst 1, 1) := by decide +kernel
theorem dX6_format_105 : decode cX6_format 105 = .ok (.putfield 47, 3) := by decide +kernel
theorem dX6_format_108 : decode cX6_format 108 = .ok (.aload_n 0, 1) := by decide +kernel
theorem dX6_format_109 : decode cX6_format 109 = .ok (.iconst 0, 1) := by decide +kernel
theorem dX6_format_110 : decode cX6_format 110 = .ok (.putfield 90, 3) := by decide +kernel
theorem dX6_format_113 : decode cX6_format 113 = .ok (.iconst 0, 1) := by decide +kernel
theorem dX6_format_114 : decode cX6_format 114 = .ok (.istore_n 2, 1) := by decide +kernel
theorem dX6_format_115 : decode cX6_format 115 = .ok (.iload_n 2, 1) := by decide +kernel
theorem dX6_format_116 : decode cX6_format 116 = .ok (.sipush 5100, 3) := by decide +kernel
theorem dX6_format_119 : decode cX6_format 119 = .ok (.if_icmp .ge 16, 3) := by decide +kernel
theorem dX6_format_122 : decode cX6_format 122 = .ok (.aload_n 0, 1) := by decide +kernel
theorem dX6_format_123 : decode cX6_format 123 = .ok (.getfield 33, 3) := by decide +kernel
theorem dX6_format_126 : decode cX6_format 126 = .ok (.iload_n 2, 1) := by decide +kernel
theorem dX6_format_127 : decode cX6_format 127 = .ok (.iconst 0, 1) := by decide +kernel
theorem dX6_format_128 : decode cX6_format 128 = .ok (.bastore, 1) := by decide +kernel
theorem dX6_format_129 : decode cX6_format 129 = .ok (.iinc 2 1, 3) := by decide +kernel
theorem dX6_format_132 : decode cX6_format 132 = .ok (.goto (-17), 3) := by decide +kernel
theorem dX6_format_135 : decode cX6_format 135 = .ok (.return_, 1) := by decide +kernel
theorem dX6_reserve_0 : decode cX6_reserve 0 = .ok (.aload_n 0, 1) := by decide +kernel
theorem dX6_reserve_1 : decode cX6_reserve 1 = .ok (.iload_n 1, 1) := by decide +kernel
theorem dX6_reserve_2 : decode cX6_reserve 2 = .ok (.iconst 0, 1) := by decide +kernel
theorem dX6_reserve_3 : decode cX6_reserve 3 = .ok (.bipush 8, 2) := by decide +kernel
theorem dX6_reserve_5 : decode cX6_reserve 5 = .ok (.invokestatic 54, 3) := by decide +kernel
theorem dX6_reserve_8 : decode cX6_reserve 8 = .ok (.ifCond .ne 7, 3) := by decide +kernel
theorem dX6_reserve_11 : decode cX6_reserve 11 = .ok (.iconst 1, 1) := by decide +kernel
theorem dX6_reserve_12 : decode cX6_reserve 12 = .ok (.goto 4, 3) := by decide +kernel
theorem dX6_reserve_15 : decode cX6_reserve 15 = .ok (.iconst 0, 1) := by decide +kernel
theorem dX6_reserve_16 : decode cX6_reserve 16 = .ok (.aload_n 0, 1) := by decide +kernel
theorem dX6_reserve_17 : decode cX6_reserve 17 = .ok (.getfield 65, 3) := by decide +kernel
theorem dX6_reserve_20 : decode cX6_reserve 20 = .ok (.ifCond .ne 7, 3) := by decide +kernel
theorem dX6_reserve_23 : decode cX6_reserve 23 = .ok (.iconst 1, 1) := by decide +kernel
theorem dX6_reserve_24 : decode cX6_reserve 24 = .ok (.goto 4, 3) := by decide +kernel
theorem dX6_reserve_27 : decode cX6_reserve 27 = .ok (.iconst 0, 1) := by decide +kernel
theorem dX6_reserve_28 : decode cX6_reserve 28 = .ok (.iconst 0, 1) := by decide +kernel
theorem dX6_reserve_29 : decode cX6_reserve 29 = .ok (.iconst 0, 1) := by decide +kernel
theorem dX6_reserve_30 : decode cX6_reserve 30 = .ok (.invokevirtual 58, 3) := by decide +kernel
theorem dX6_reserve_33 : decode cX6_reserve 33 = .ok (.ifCond .eq 4, 3) := by decide +kernel
theorem dX6_reserve_36 : decode cX6_reserve 36 = .ok (.return_, 1) := by decide +kernel
theorem dX6_reserve_37 : decode cX6_reserve 37 = .ok (.aload_n 0, 1) := by decide +kernel
theorem dX6_reserve_38 : decode cX6_reserve 38 = .ok (.iload_n 1, 1) := by decide +kernel
theorem dX6_reserve_39 : decode cX6_reserve 39 = .ok (.putfield 17, 3) := by decide +kernel
theorem dX6_reserve_42 : decode cX6_reserve 42 = .ok (.return_, 1) := by decide +kernel
theorem dX6_row_0 : decode cX6_row 0 = .ok (.iload 4, 2) := by decide +kernel
theorem dX6_row_2 : decode cX6_row 2 = .ok (.iconst 1, 1) := by decide +kernel
theorem dX6_row_3 : decode cX6_row 3 = .ok (.bipush 8, 2) := by decide +kernel
theorem dX6_row_5 : decode cX6_row 5 = .ok (.invokestatic 54, 3) := by decide +kernel
theorem dX6_row_8 : decode cX6_row 8 = .ok (.ifCond .ne 7, 3) := by decide +kernel
theorem dX6_row_11 : decode cX6_row 11 = .ok (.iconst 1, 1) := by decide +kernel
theorem dX6_row_12 : decode cX6_row 12 = .ok (.goto 4, 3) := by decide +kernel
theorem dX6_row_15 : decode cX6_row 15 = .ok (.iconst 0, 1) := by decide +kernel
theorem dX6_row_16 : decode cX6_row 16 = .ok (.istore 5, 2) := by decide +kernel
theorem dX6_row_18 : decode cX6_row 18 = .ok (.iconst 0, 1) := by decide +kernel
theorem dX6_row_19 : decode cX6_row 19 = .ok (.istore 6, 2) := by decide +kernel
theorem dX6_row_21 : decode cX6_row 21 = .ok (.aload_n 0, 1) := by decide +kernel
theorem dX6_row_22 : decode cX6_row 22 = .ok (.getfield 65, 3) := by decide +kernel
theorem dX6_row_25 : decode cX6_row 25 = .ok (.ifCond .eq 62, 3) := by decide +kernel
theorem dX6_row_28 : decode cX6_row 28 = .ok (.iload 5, 2) := by decide +kernel
theorem dX6_row_30 : decode cX6_row 30 = .ok (.ifCond .ne 57, 3) := by decide +kernel
theorem dX6_row_33 : decode cX6_row 33 = .ok (.aload_n 0, 1) := by decide +kernel
theorem dX6_row_34 : decode cX6_row 34 = .ok (.getfield 62, 3) := by decide +kernel
theorem dX6_row_37 : decode cX6_row 37 = .ok (.iconst 2, 1) := by decide +kernel
theorem dX6_row_38 : decode cX6_row 38 = .ok (.isub, 1) := by decide +kernel
theorem dX6_row_39 : decode cX6_row 39 = .ok (.aload_n 0, 1) := by decide +kernel
theorem dX6_row_40 : decode cX6_row 40 = .ok (.getfield 68, 3) := by decide +kernel
theorem dX6_row_43 : decode cX6_row 43 = .ok (.isub, 1) := by decide +kernel
theorem dX6_row_44 : decode cX6_row 44 = .ok (.iload_n 1, 1) := by decide +kernel
theorem dX6_row_45 : decode cX6_row 45 = .ok (.iconst 3, 1) := by decide +kernel
theorem dX6_row_46 : decode cX6_row 46 = .ok (.if_icmp .le 10, 3) := by decide +kernel
theorem dX6_row_49 : decode cX6_row 49 = .ok (.aload_n 0, 1) := by decide +kernel
theorem dX6_row_50 : decode cX6_row 50 = .ok (.getfield 17, 3) := by decide +kernel
theorem dX6_row_53 : decode cX6_row 53 = .ok (.goto 4, 3) := by decide +kernel
theorem dX6_row_56 : decode cX6_row 56 = .ok (.iconst 0, 1) := by decide +kernel
theorem dX6_row_57 : decode cX6_row 57 = .ok (.isub, 1) := by decide +kernel
theorem dX6_row_58 : decode cX6_row 58 = .ok (.istore 7, 2) := by decide +kernel
theorem dX6_row_60 : decode cX6_row 60 = .ok (.aload_n 0, 1) := by decide +kernel
theorem dX6_row_61 : decode cX6_row 61 = .ok (.getfield 74, 3) := by decide +kernel
theorem dX6_row_64 : decode cX6_row 64 = .ok (.bipush 100, 2) := by decide +kernel
theorem dX6_row_66 : decode cX6_row 66 = .ok (.if_icmp .eq 14, 3) := by decide +kernel
theorem dX6_row_69 : decode cX6_row 69 = .ok (.aload_n 0, 1) := by decide +kernel
theorem dX6_row_70 : decode cX6_row 70 = .ok (.iload 4, 2) := by decide +kernel
theorem dX6_row_72 : decode cX6_row 72 = .ok (.invokevirtual 129, 3) := by decide +kernel
theorem dX6_row_75 : decode cX6_row 75 = .ok (.iload 7, 2) := by decide +kernel
theorem dX6_row_77 : decode cX6_row 77 = .ok (.if_icmp .le 7, 3) := by decide +kernel
theorem dX6_row_80 : decode cX6_row 80 = .ok (.iconst 1, 1) := by decide +kernel
theorem dX6_row_81 : decode cX6_row 81 = .ok (.goto 4, 3) := by decide +kernel
theorem dX6_row_84 : decode cX6_row 84 = .ok (.iconst 0, 1) := by decide +kernel
theorem dX6_row_85 : decode cX6_row 85 = .ok (.istore 6, 2) := by decide +kernel
theorem dX6_row_87 : decode cX6_row 87 = .ok (.aload_n 0, 1) := by decide +kernel
theorem dX6_row_88 : decode cX6_row 88 = .ok (.iload_n 1, 1) := by decide +kernel
theorem dX6_row_89 : decode cX6_row 89 = .ok (.iconst 0, 1) := by decide +kernel
theorem dX6_row_90 : decode cX6_row 90 = .ok (.bipush 7, 2) := by decide +kernel
theorem dX6_row_92 : decode cX6_row 92 = .ok (.invokestatic 54, 3) := by decide +kernel
theorem dX6_row_95 : decode cX6_row 95 = .ok (.ifCond .ne 7, 3) := by decide +kernel
theorem dX6_row_98 : decode cX6_row 98 = .ok (.iconst 1, 1) := by decide +kernel
theorem dX6_row_99 : decode cX6_row 99 = .ok (.goto 4, 3) := by decide +kernel
theorem dX6_row_102 : decode cX6_row 102 = .ok (.iconst 0, 1) := by decide +kernel
theorem dX6_row_103 : decode cX6_row 103 = .ok (.iload 5, 2) := by decide +kernel
theorem dX6_row_105 : decode cX6_row 105 = .ok (.aload_n 0, 1) := by decide +kernel
theorem dX6_row_106 : decode cX6_row 106 = .ok (.getfield 65, 3) := by decide +kernel
theorem dX6_row_109 : decode cX6_row 109 = .ok (.ifCond .ne 7, 3) := by decide +kernel
theorem dX6_row_112 : decode cX6_row 112 = .ok (.iconst 1, 1) := by decide +kernel
theorem dX6_row_113 : decode cX6_row 113 = .ok (.goto 4, 3) := by decide +kernel
theorem dX6_row_116 : decode cX6_row 116 = .ok (.iconst 0, 1) := by decide +kernel
theorem dX6_row_117 : decode cX6_row 117 = .ok (.iload 6, 2) := by decide +kernel
theorem dX6_row_119 : decode cX6_row 119 = .ok (.invokevirtual 58, 3) := by decide +kernel
theorem dX6_row_122 : decode cX6_row 122 = .ok (.ifCond .eq 5, 3) := by decide +kernel
theorem dX6_row_125 : decode cX6_row 125 = .ok (.iconst 0, 1) := by decide +kernel
theorem dX6_row_126 : decode cX6_row 126 = .ok (.ireturn, 1) := by decide +kernel
theorem dX6_row_127 : decode cX6_row 127 = .ok (.aload_n 0, 1) := by decide +kernel
theorem dX6_row_128 : decode cX6_row 128 = .ok (.getfield 37, 3) := by decide +kernel
theorem dX6_row_131 : decode cX6_row 131 = .ok (.aload_n 0, 1) := by decide +kernel
theorem dX6_row_132 : decode cX6_row 132 = .ok (.getfield 74, 3) := by decide +kernel
theorem dX6_row_135 : decode cX6_row 135 = .ok (.iload_n 1, 1) := by decide +kernel
theorem dX6_row_136 : decode cX6_row 136 = .ok (.iastore, 1) := by decide +kernel
theorem dX6_row_137 : decode cX6_row 137 = .ok (.aload_n 0, 1) := by decide +kernel
theorem dX6_row_138 : decode cX6_row 138 = .ok (.getfield 40, 3) := by decide +kernel
theorem dX6_row_141 : decode cX6_row 141 = .ok (.aload_n 0, 1) := by decide +kernel
theorem dX6_row_142 : decode cX6_row 142 = .ok (.getfield 74, 3) := by decide +kernel
theorem dX6_row_145 : decode cX6_row 145 = .ok (.iload 4, 2) := by decide +kernel
theorem dX6_row_147 : decode cX6_row 147 = .ok (.iastore, 1) := by decide +kernel
theorem dX6_row_148 : decode cX6_row 148 = .ok (.aload_n 0, 1) := by decide +kernel
theorem dX6_row_149 : decode cX6_row 149 = .ok (.getfield 43, 3) := by decide +kernel
theorem dX6_row_152 : decode cX6_row 152 = .ok (.aload_n 0, 1) := by decide +kernel
theorem dX6_row_153 : decode cX6_row 153 = .ok (.getfield 74, 3) := by decide +kernel
theorem dX6_row_156 : decode cX6_row 156 = .ok (.lload_n 2, 1) := by decide +kernel
theorem dX6_row_157 : decode cX6_row 157 = .ok (.lastore, 1) := by decide +kernel
theorem dX6_row_158 : decode cX6_row 158 = .ok (.aload_n 0, 1) := by decide +kernel
theorem dX6_row_159 : decode cX6_row 159 = .ok (.dup, 1) := by decide +kernel
theorem dX6_row_160 : decode cX6_row 160 = .ok (.getfield 74, 3) := by decide +kernel
theorem dX6_row_163 : decode cX6_row 163 = .ok (.iconst 1, 1) := by decide +kernel
theorem dX6_row_164 : decode cX6_row 164 = .ok (.iadd, 1) := by decide +kernel
theorem dX6_row_165 : decode cX6_row 165 = .ok (.putfield 74, 3) := by decide +kernel
theorem dX6_row_168 : decode cX6_row 168 = .ok (.aload_n 0, 1) := by decide +kernel
theorem dX6_row_169 : decode cX6_row 169 = .ok (.getfield 71, 3) := by decide +kernel
theorem dX6_row_172 : decode cX6_row 172 = .ok (.aload_n 0, 1) := by decide +kernel
theorem dX6_row_173 : decode cX6_row 173 = .ok (.getfield 74, 3) := by decide +kernel
theorem dX6_row_176 : decode cX6_row 176 = .ok (.iadd, 1) := by decide +kernel
theorem dX6_row_177 : decode cX6_row 177 = .ok (.iconst 1, 1) := by decide +kernel
theorem dX6_row_178 : decode cX6_row 178 = .ok (.isub, 1) := by decide +kernel
theorem dX6_row_179 : decode cX6_row 179 = .ok (.ireturn, 1) := by decide +kernel
theorem dX6_sync_0 : decode cX6_sync 0 = .ok (.aload_n 0, 1) := by decide +kernel
theorem dX6_sync_1 : decode cX6_sync 1 = .ok (.aload_n 0, 1) := by decide +kernel
theorem dX6_sync_2 : decode cX6_sync 2 = .ok (.getfield 65, 3) := by decide +kernel
theorem dX6_sync_5 : decode cX6_sync 5 = .ok (.ifCond .ne 7, 3) := by decide +kernel
theorem dX6_sync_8 : decode cX6_sync 8 = .ok (.iconst 1, 1) := by decide +kernel
theorem dX6_sync_9 : decode cX6_sync 9 = .ok (.goto 4, 3) := by decide +kernel
theorem dX6_sync_12 : decode cX6_sync 12 = .ok (.iconst 0, 1) := by decide +kernel
theorem dX6_sync_13 : decode cX6_sync 13 = .ok (.iconst 0, 1) := by decide +kernel
theorem dX6_sync_14 : decode cX6_sync 14 = .ok (.iconst 0, 1) := by decide +kernel
theorem dX6_sync_15 : decode cX6_sync 15 = .ok (.iconst 0, 1) := by decide +kernel
theorem dX6_sync_16 : decode cX6_sync 16 = .ok (.invokevirtual 58, 3) := by decide +kernel
theorem dX6_sync_19 : decode cX6_sync 19 = .ok (.ifCond .eq 5, 3) := by decide +kernel
theorem dX6_sync_22 : decode cX6_sync 22 = .ok (.iconst 0, 1) := by decide +kernel
theorem dX6_sync_23 : decode cX6_sync 23 = .ok (.ireturn, 1) := by decide +kernel
theorem dX6_sync_24 : decode cX6_sync 24 = .ok (.iconst 0, 1) := by decide +kernel
theorem dX6_sync_25 : decode cX6_sync 25 = .ok (.istore_n 1, 1) := by decide +kernel
theorem dX6_sync_26 : decode cX6_sync 26 = .ok (.iload_n 1, 1) := by decide +kernel
theorem dX6_sync_27 : decode cX6_sync 27 = .ok (.aload_n 0, 1) := by decide +kernel
theorem dX6_sync_28 : decode cX6_sync 28 = .ok (.getfield 74, 3) := by decide +kernel
theorem dX6_sync_31 : decode cX6_sync 31 = .ok (.if_icmp .ge 45, 3) := by decide +kernel
theorem dX6_sync_34 : decode cX6_sync 34 = .ok (.aload_n 0, 1) := by decide +kernel
theorem dX6_sync_35 : decode cX6_sync 35 = .ok (.aload_n 0, 1) := by decide +kernel
theorem dX6_sync_36 : decode cX6_sync 36 = .ok (.getfield 68, 3) := by decide +kernel
theorem dX6_sync_39 : decode cX6_sync 39 = .ok (.iconst 1, 1) := by decide +kernel
theorem dX6_sync_40 : decode cX6_sync 40 = .ok (.iadd, 1) := by decide +kernel
theorem dX6_sync_41 : decode cX6_sync 41 = .ok (.invokevirtual 136, 3) := by decide +kernel
theorem dX6_sync_44 : decode cX6_sync 44 = .ok (.aload_n 0, 1) := by decide +kernel
theorem dX6_sync_45 : decode cX6_sync 45 = .ok (.iload_n 1, 1) := by decide +kernel
theorem dX6_sync_46 : decode cX6_sync 46 = .ok (.invokevirtual 139, 3) := by decide +kernel
theorem dX6_sync_49 : decode cX6_sync 49 = .ok (.istore_n 1, 1) := by decide +kernel
theorem dX6_sync_50 : decode cX6_sync 50 = .ok (.aload_n 0, 1) := by decide +kernel
theorem dX6_sync_51 : decode cX6_sync 51 = .ok (.aload_n 0, 1) := by decide +kernel
theorem dX6_sync_52 : decode cX6_sync 52 = .ok (.getfield 68, 3) := by decide +kernel
theorem dX6_sync_55 : decode cX6_sync 55 = .ok (.invokevirtual 142, 3) := by decide +kernel
theorem dX6_sync_58 : decode cX6_sync 58 = .ok (.ifCond .ne 5, 3) := by decide +kernel
theorem dX6_sync_61 : decode cX6_sync 61 = .ok (.iconst (-1), 1) := by decide +kernel
theorem dX6_sync_62 : decode cX6_sync 62 = .ok (.ireturn, 1) := by decide +kernel
theorem dX6_sync_63 : decode cX6_sync 63 = .ok (.aload_n 0, 1) := by decide +kernel
theorem dX6_sync_64 : decode cX6_sync 64 = .ok (.dup, 1) := by decide +kernel
theorem dX6_sync_65 : decode cX6_sync 65 = .ok (.getfield 68, 3) := by decide +kernel
theorem dX6_sync_68 : decode cX6_sync 68 = .ok (.iconst 1, 1) := by decide +kernel
theorem dX6_sync_69 : decode cX6_sync 69 = .ok (.iadd, 1) := by decide +kernel
theorem dX6_sync_70 : decode cX6_sync 70 = .ok (.putfield 68, 3) := by decide +kernel
theorem dX6_sync_73 : decode cX6_sync 73 = .ok (.goto (-47), 3) := by decide +kernel
theorem dX6_sync_76 : decode cX6_sync 76 = .ok (.aload_n 0, 1) := by decide +kernel
theorem dX6_sync_77 : decode cX6_sync 77 = .ok (.dup, 1) := by decide +kernel
theorem dX6_sync_78 : decode cX6_sync 78 = .ok (.getfield 71, 3) := by decide +kernel
theorem dX6_sync_81 : decode cX6_sync 81 = .ok (.aload_n 0, 1) := by decide +kernel
theorem dX6_sync_82 : decode cX6_sync 82 = .ok (.getfield 74, 3) := by decide +kernel
theorem dX6_sync_85 : decode cX6_sync 85 = .ok (.iadd, 1) := by decide +kernel
theorem dX6_sync_86 : decode cX6_sync 86 = .ok (.putfield 71, 3) := by decide +kernel
theorem dX6_sync_89 : decode cX6_sync 89 = .ok (.aload_n 0, 1) := by decide +kernel
theorem dX6_sync_90 : decode cX6_sync 90 = .ok (.iconst 0, 1) := by decide +kernel
theorem dX6_sync_91 : decode cX6_sync 91 = .ok (.putfield 74, 3) := by decide +kernel
theorem dX6_sync_94 : decode cX6_sync 94 = .ok (.aload_n 0, 1) := by decide +kernel
theorem dX6_sync_95 : decode cX6_sync 95 = .ok (.getfield 71, 3) := by decide +kernel
theorem dX6_sync_98 : decode cX6_sync 98 = .ok (.ireturn, 1) := by decide +kernel
theorem dX6_save_0 : decode cX6_save 0 = .ok (.aload_n 0, 1) := by decide +kernel
theorem dX6_save_1 : decode cX6_save 1 = .ok (.aload_n 0, 1) := by decide +kernel
theorem dX6_save_2 : decode cX6_save 2 = .ok (.getfield 65, 3) := by decide +kernel
theorem dX6_save_5 : decode cX6_save 5 = .ok (.ifCond .ne 7, 3) := by decide +kernel
theorem dX6_save_8 : decode cX6_save 8 = .ok (.iconst 1, 1) := by decide +kernel
theorem dX6_save_9 : decode cX6_save 9 = .ok (.goto 4, 3) := by decide +kernel
theorem dX6_save_12 : decode cX6_save 12 = .ok (.iconst 0, 1) := by decide +kernel
theorem dX6_save_13 : decode cX6_save 13 = .ok (.iconst 0, 1) := by decide +kernel
theorem dX6_save_14 : decode cX6_save 14 = .ok (.iconst 0, 1) := by decide +kernel
theorem dX6_save_15 : decode cX6_save 15 = .ok (.iconst 0, 1) := by decide +kernel
theorem dX6_save_16 : decode cX6_save 16 = .ok (.invokevirtual 58, 3) := by decide +kernel
theorem dX6_save_19 : decode cX6_save 19 = .ok (.ifCond .eq 5, 3) := by decide +kernel
theorem dX6_save_22 : decode cX6_save 22 = .ok (.iconst 0, 1) := by decide +kernel
theorem dX6_save_23 : decode cX6_save 23 = .ok (.ireturn, 1) := by decide +kernel
theorem dX6_save_24 : decode cX6_save 24 = .ok (.aload_n 0, 1) := by decide +kernel
theorem dX6_save_25 : decode cX6_save 25 = .ok (.getfield 77, 3) := by decide +kernel
theorem dX6_save_28 : decode cX6_save 28 = .ok (.iconst 1, 1) := by decide +kernel
theorem dX6_save_29 : decode cX6_save 29 = .ok (.iadd, 1) := by decide +kernel
theorem dX6_save_30 : decode cX6_save 30 = .ok (.istore_n 3, 1) := by decide +kernel
theorem dX6_save_31 : decode cX6_save 31 = .ok (.aload_n 0, 1) := by decide +kernel
theorem dX6_save_32 : decode cX6_save 32 = .ok (.iload_n 3, 1) := by decide +kernel
theorem dX6_save_33 : decode cX6_save 33 = .ok (.invokevirtual 136, 3) := by decide +kernel
theorem dX6_save_36 : decode cX6_save 36 = .ok (.iconst 0, 1) := by decide +kernel
theorem dX6_save_37 : decode cX6_save 37 = .ok (.istore 4, 2) := by decide +kernel
theorem dX6_save_39 : decode cX6_save 39 = .ok (.iload 4, 2) := by decide +kernel
theorem dX6_save_41 : decode cX6_save 41 = .ok (.bipush 8, 2) := by decide +kernel
theorem dX6_save_43 : decode cX6_save 43 = .ok (.if_icmp .ge 29, 3) := by decide +kernel
theorem dX6_save_46 : decode cX6_save 46 = .ok (.aload_n 0, 1) := by decide +kernel
theorem dX6_save_47 : decode cX6_save 47 = .ok (.bipush 6, 2) := by decide +kernel
theorem dX6_save_49 : decode cX6_save 49 = .ok (.iload 4, 2) := by decide +kernel
theorem dX6_save_51 : decode cX6_save 51 = .ok (.iadd, 1) := by decide +kernel
theorem dX6_save_52 : decode cX6_save 52 = .ok (.lload_n 1, 1) := by decide +kernel
theorem dX6_save_53 : decode cX6_save 53 = .ok (.bipush 56, 2) := by decide +kernel
theorem dX6_save_55 : decode cX6_save 55 = .ok (.bipush 8, 2) := by decide +kernel
theorem dX6_save_57 : decode cX6_save 57 = .ok (.iload 4, 2) := by decide +kernel
theorem dX6_save_59 : decode cX6_save 59 = .ok (.imul, 1) := by decide +kernel
theorem dX6_save_60 : decode cX6_save 60 = .ok (.isub, 1) := by decide +kernel
theorem dX6_save_61 : decode cX6_save 61 = .ok (.lshr, 1) := by decide +kernel
theorem dX6_save_62 : decode cX6_save 62 = .ok (.l2i, 1) := by decide +kernel
theorem dX6_save_63 : decode cX6_save 63 = .ok (.invokevirtual 119, 3) := by decide +kernel
theorem dX6_save_66 : decode cX6_save 66 = .ok (.iinc 4 1, 3) := by decide +kernel
theorem dX6_save_69 : decode cX6_save 69 = .ok (.goto (-30), 3) := by decide +kernel
theorem dX6_save_72 : decode cX6_save 72 = .ok (.aload_n 0, 1) := by decide +kernel
theorem dX6_save_73 : decode cX6_save 73 = .ok (.bipush 8, 2) := by decide +kernel
theorem dX6_save_75 : decode cX6_save 75 = .ok (.invokevirtual 132, 3) := by decide +kernel
theorem dX6_save_78 : decode cX6_save 78 = .ok (.aload_n 0, 1) := by decide +kernel
theorem dX6_save_79 : decode cX6_save 79 = .ok (.iload_n 3, 1) := by decide +kernel
theorem dX6_save_80 : decode cX6_save 80 = .ok (.iconst 2, 1) := by decide +kernel
theorem dX6_save_81 : decode cX6_save 81 = .ok (.irem, 1) := by decide +kernel
theorem dX6_save_82 : decode cX6_save 82 = .ok (.ifCond .eq 12, 3) := by decide +kernel
theorem dX6_save_85 : decode cX6_save 85 = .ok (.aload_n 0, 1) := by decide +kernel
theorem dX6_save_86 : decode cX6_save 86 = .ok (.getfield 62, 3) := by decide +kernel
theorem dX6_save_89 : decode cX6_save 89 = .ok (.iconst 2, 1) := by decide +kernel
theorem dX6_save_90 : decode cX6_save 90 = .ok (.isub, 1) := by decide +kernel
theorem dX6_save_91 : decode cX6_save 91 = .ok (.goto 9, 3) := by decide +kernel
theorem dX6_save_94 : decode cX6_save 94 = .ok (.aload_n 0, 1) := by decide +kernel
theorem dX6_save_95 : decode cX6_save 95 = .ok (.getfield 62, 3) := by decide +kernel
theorem dX6_save_98 : decode cX6_save 98 = .ok (.iconst 1, 1) := by decide +kernel
theorem dX6_save_99 : decode cX6_save 99 = .ok (.isub, 1) := by decide +kernel
theorem dX6_save_100 : decode cX6_save 100 = .ok (.invokevirtual 142, 3) := by decide +kernel
theorem dX6_save_103 : decode cX6_save 103 = .ok (.ifCond .ne 5, 3) := by decide +kernel
theorem dX6_save_106 : decode cX6_save 106 = .ok (.iconst (-1), 1) := by decide +kernel
theorem dX6_save_107 : decode cX6_save 107 = .ok (.ireturn, 1) := by decide +kernel
theorem dX6_save_108 : decode cX6_save 108 = .ok (.aload_n 0, 1) := by decide +kernel
theorem dX6_save_109 : decode cX6_save 109 = .ok (.iload_n 3, 1) := by decide +kernel
theorem dX6_save_110 : decode cX6_save 110 = .ok (.putfield 77, 3) := by decide +kernel
theorem dX6_save_113 : decode cX6_save 113 = .ok (.aload_n 0, 1) := by decide +kernel
theorem dX6_save_114 : decode cX6_save 114 = .ok (.lload_n 1, 1) := by decide +kernel
theorem dX6_save_115 : decode cX6_save 115 = .ok (.putfield 80, 3) := by decide +kernel
theorem dX6_save_118 : decode cX6_save 118 = .ok (.iload_n 3, 1) := by decide +kernel
theorem dX6_save_119 : decode cX6_save 119 = .ok (.ireturn, 1) := by decide +kernel
theorem dX6_state_0 : decode cX6_state 0 = .ok (.aload_n 0, 1) := by decide +kernel
theorem dX6_state_1 : decode cX6_state 1 = .ok (.aload_n 0, 1) := by decide +kernel
theorem dX6_state_2 : decode cX6_state 2 = .ok (.getfield 65, 3) := by decide +kernel
theorem dX6_state_5 : decode cX6_state 5 = .ok (.ifCond .ne 7, 3) := by decide +kernel
theorem dX6_state_8 : decode cX6_state 8 = .ok (.iconst 1, 1) := by decide +kernel
theorem dX6_state_9 : decode cX6_state 9 = .ok (.goto 4, 3) := by decide +kernel
theorem dX6_state_12 : decode cX6_state 12 = .ok (.iconst 0, 1) := by decide +kernel
theorem dX6_state_13 : decode cX6_state 13 = .ok (.iconst 0, 1) := by decide +kernel
theorem dX6_state_14 : decode cX6_state 14 = .ok (.iconst 0, 1) := by decide +kernel
theorem dX6_state_15 : decode cX6_state 15 = .ok (.iconst 0, 1) := by decide +kernel
theorem dX6_state_16 : decode cX6_state 16 = .ok (.invokevirtual 58, 3) := by decide +kernel
theorem dX6_state_19 : decode cX6_state 19 = .ok (.ifCond .eq 5, 3) := by decide +kernel
theorem dX6_state_22 : decode cX6_state 22 = .ok (.lconst 0, 1) := by decide +kernel
theorem dX6_state_23 : decode cX6_state 23 = .ok (.lreturn, 1) := by decide +kernel
theorem dX6_state_24 : decode cX6_state 24 = .ok (.aload_n 0, 1) := by decide +kernel
theorem dX6_state_25 : decode cX6_state 25 = .ok (.getfield 80, 3) := by decide +kernel
theorem dX6_state_28 : decode cX6_state 28 = .ok (.lreturn, 1) := by decide +kernel
theorem dX6_cut_0 : decode cX6_cut 0 = .ok (.aload_n 0, 1) := by decide +kernel
theorem dX6_cut_1 : decode cX6_cut 1 = .ok (.iload_n 1, 1) := by decide +kernel
theorem dX6_cut_2 : decode cX6_cut 2 = .ok (.iconst 0, 1) := by decide +kernel
theorem dX6_cut_3 : decode cX6_cut 3 = .ok (.bipush 20, 2) := by decide +kernel
theorem dX6_cut_5 : decode cX6_cut 5 = .ok (.invokestatic 54, 3) := by decide +kernel
theorem dX6_cut_8 : decode cX6_cut 8 = .ok (.ifCond .eq 14, 3) := by decide +kernel
theorem dX6_cut_11 : decode cX6_cut 11 = .ok (.iload_n 2, 1) := by decide +kernel
theorem dX6_cut_12 : decode cX6_cut 12 = .ok (.iconst 0, 1) := by decide +kernel
theorem dX6_cut_13 : decode cX6_cut 13 = .ok (.sipush 511, 3) := by decide +kernel
theorem dX6_cut_16 : decode cX6_cut 16 = .ok (.invokestatic 54, 3) := by decide +kernel
theorem dX6_cut_19 : decode cX6_cut 19 = .ok (.ifCond .ne 7, 3) := by decide +kernel
theorem dX6_cut_22 : decode cX6_cut 22 = .ok (.iconst 1, 1) := by decide +kernel
theorem dX6_cut_23 : decode cX6_cut 23 = .ok (.goto 4, 3) := by decide +kernel
theorem dX6_cut_26 : decode cX6_cut 26 = .ok (.iconst 0, 1) := by decide +kernel
theorem dX6_cut_27 : decode cX6_cut 27 = .ok (.aload_n 0, 1) := by decide +kernel
theorem dX6_cut_28 : decode cX6_cut 28 = .ok (.getfield 65, 3) := by decide +kernel
theorem dX6_cut_31 : decode cX6_cut 31 = .ok (.ifCond .ne 7, 3) := by decide +kernel
theorem dX6_cut_34 : decode cX6_cut 34 = .ok (.iconst 1, 1) := by decide +kernel
theorem dX6_cut_35 : decode cX6_cut 35 = .ok (.goto 4, 3) := by decide +kernel
theorem dX6_cut_38 : decode cX6_cut 38 = .ok (.iconst 0, 1) := by decide +kernel
theorem dX6_cut_39 : decode cX6_cut 39 = .ok (.iconst 0, 1) := by decide +kernel
theorem dX6_cut_40 : decode cX6_cut 40 = .ok (.iconst 0, 1) := by decide +kernel
theorem dX6_cut_41 : decode cX6_cut 41 = .ok (.invokevirtual 58, 3) := by decide +kernel
theorem dX6_cut_44 : decode cX6_cut 44 = .ok (.ifCond .eq 4, 3) := by decide +kernel
theorem dX6_cut_47 : decode cX6_cut 47 = .ok (.return_, 1) := by decide +kernel
theorem dX6_cut_48 : decode cX6_cut 48 = .ok (.aload_n 0, 1) := by decide +kernel
theorem dX6_cut_49 : decode cX6_cut 49 = .ok (.iload_n 1, 1) := by decide +kernel
theorem dX6_cut_50 : decode cX6_cut 50 = .ok (.putfield 21, 3) := by decide +kernel
theorem dX6_cut_53 : decode cX6_cut 53 = .ok (.aload_n 0, 1) := by decide +kernel
theorem dX6_cut_54 : decode cX6_cut 54 = .ok (.iload_n 2, 1) := by decide +kernel
theorem dX6_cut_55 : decode cX6_cut 55 = .ok (.putfield 123, 3) := by decide +kernel
theorem dX6_cut_58 : decode cX6_cut 58 = .ok (.return_, 1) := by decide +kernel
theorem dX6_start_0 : decode cX6_start 0 = .ok (.aload_n 0, 1) := by decide +kernel
theorem dX6_start_1 : decode cX6_start 1 = .ok (.aload_n 0, 1) := by decide +kernel
theorem dX6_start_2 : decode cX6_start 2 = .ok (.getfield 62, 3) := by decide +kernel
theorem dX6_start_5 : decode cX6_start 5 = .ok (.ifCond .ne 7, 3) := by decide +kernel
theorem dX6_start_8 : decode cX6_start 8 = .ok (.iconst 1, 1) := by decide +kernel
theorem dX6_start_9 : decode cX6_start 9 = .ok (.goto 4, 3) := by decide +kernel
theorem dX6_start_12 : decode cX6_start 12 = .ok (.iconst 0, 1) := by decide +kernel
theorem dX6_start_13 : decode cX6_start 13 = .ok (.iconst 0, 1) := by decide +kernel
theorem dX6_start_14 : decode cX6_start 14 = .ok (.iconst 0, 1) := by decide +kernel
theorem dX6_start_15 : decode cX6_start 15 = .ok (.iconst 0, 1) := by decide +kernel
theorem dX6_start_16 : decode cX6_start 16 = .ok (.invokevirtual 58, 3) := by decide +kernel
theorem dX6_start_19 : decode cX6_start 19 = .ok (.ifCond .eq 5, 3) := by decide +kernel
theorem dX6_start_22 : decode cX6_start 22 = .ok (.iconst 0, 1) := by decide +kernel
theorem dX6_start_23 : decode cX6_start 23 = .ok (.ireturn, 1) := by decide +kernel
theorem dX6_start_24 : decode cX6_start 24 = .ok (.aload_n 0, 1) := by decide +kernel
theorem dX6_start_25 : decode cX6_start 25 = .ok (.iconst 1, 1) := by decide +kernel
theorem dX6_start_26 : decode cX6_start 26 = .ok (.putfield 65, 3) := by decide +kernel
theorem dX6_start_29 : decode cX6_start 29 = .ok (.aload_n 0, 1) := by decide +kernel
theorem dX6_start_30 : decode cX6_start 30 = .ok (.iconst (-1), 1) := by decide +kernel
theorem dX6_start_31 : decode cX6_start 31 = .ok (.putfield 21, 3) := by decide +kernel
theorem dX6_start_34 : decode cX6_start 34 = .ok (.aload_n 0, 1) := by decide +kernel
theorem dX6_start_35 : decode cX6_start 35 = .ok (.iconst 0, 1) := by decide +kernel
theorem dX6_start_36 : decode cX6_start 36 = .ok (.putfield 74, 3) := by decide +kernel
theorem dX6_start_39 : decode cX6_start 39 = .ok (.aload_n 0, 1) := by decide +kernel
theorem dX6_start_40 : decode cX6_start 40 = .ok (.iconst 0, 1) := by decide +kernel
theorem dX6_start_41 : decode cX6_start 41 = .ok (.putfield 71, 3) := by decide +kernel
theorem dX6_start_44 : decode cX6_start 44 = .ok (.aload_n 0, 1) := by decide +kernel
theorem dX6_start_45 : decode cX6_start 45 = .ok (.iconst 0, 1) := by decide +kernel
theorem dX6_start_46 : decode cX6_start 46 = .ok (.putfield 68, 3) := by decide +kernel
theorem dX6_start_49 : decode cX6_start 49 = .ok (.aload_n 0, 1) := by decide +kernel
theorem dX6_start_50 : decode cX6_start 50 = .ok (.getfield 68, 3) := by decide +kernel
theorem dX6_start_53 : decode cX6_start 53 = .ok (.aload_n 0, 1) := by decide +kernel
theorem dX6_start_54 : decode cX6_start 54 = .ok (.getfield 62, 3) := by decide +kernel
theorem dX6_start_57 : decode cX6_start 57 = .ok (.iconst 2, 1) := by decide +kernel
theorem dX6_start_58 : decode cX6_start 58 = .ok (.isub, 1) := by decide +kernel
theorem dX6_start_59 : decode cX6_start 59 = .ok (.if_icmp .ge 127, 3) := by decide +kernel
theorem dX6_start_62 : decode cX6_start 62 = .ok (.aload_n 0, 1) := by decide +kernel
theorem dX6_start_63 : decode cX6_start 63 = .ok (.aload_n 0, 1) := by decide +kernel
theorem dX6_start_64 : decode cX6_start 64 = .ok (.getfield 68, 3) := by decide +kernel
theorem dX6_start_67 : decode cX6_start 67 = .ok (.invokevirtual 148, 3) := by decide +kernel
theorem dX6_start_70 : decode cX6_start 70 = .ok (.ifCond .eq 116, 3) := by decide +kernel
theorem dX6_start_73 : decode cX6_start 73 = .ok (.iconst 0, 1) := by decide +kernel
theorem dX6_start_74 : decode cX6_start 74 = .ok (.aload_n 0, 1) := by decide +kernel
theorem dX6_start_75 : decode cX6_start 75 = .ok (.getfield 68, 3) := by decide +kernel
theorem dX6_start_78 : decode cX6_start 78 = .ok (.invokestatic 105, 3) := by decide +kernel
theorem dX6_start_81 : decode cX6_start 81 = .ok (.istore_n 1, 1) := by decide +kernel
theorem dX6_start_82 : decode cX6_start 82 = .ok (.aload_n 0, 1) := by decide +kernel
theorem dX6_start_83 : decode cX6_start 83 = .ok (.iload_n 1, 1) := by decide +kernel
theorem dX6_start_84 : decode cX6_start 84 = .ok (.invokevirtual 112, 3) := by decide +kernel
theorem dX6_start_87 : decode cX6_start 87 = .ok (.istore_n 2, 1) := by decide +kernel
theorem dX6_start_88 : decode cX6_start 88 = .ok (.bipush 6, 2) := by decide +kernel
theorem dX6_start_90 : decode cX6_start 90 = .ok (.istore_n 3, 1) := by decide +kernel
theorem dX6_start_91 : decode cX6_start 91 = .ok (.iconst 0, 1) := by decide +kernel
theorem dX6_start_92 : decode cX6_start 92 = .ok (.istore 4, 2) := by decide +kernel
theorem dX6_start_94 : decode cX6_start 94 = .ok (.iload 4, 2) := by decide +kernel
theorem dX6_start_96 : decode cX6_start 96 = .ok (.iload_n 2, 1) := by decide +kernel
theorem dX6_start_97 : decode cX6_start 97 = .ok (.if_icmp .ge 76, 3) := by decide +kernel
theorem dX6_start_100 : decode cX6_start 100 = .ok (.aload_n 0, 1) := by decide +kernel
theorem dX6_start_101 : decode cX6_start 101 = .ok (.getfield 24, 3) := by decide +kernel
theorem dX6_start_104 : decode cX6_start 104 = .ok (.aload_n 0, 1) := by decide +kernel
theorem dX6_start_105 : decode cX6_start 105 = .ok (.getfield 71, 3) := by decide +kernel
theorem dX6_start_108 : decode cX6_start 108 = .ok (.aload_n 0, 1) := by decide +kernel
theorem dX6_start_109 : decode cX6_start 109 = .ok (.getfield 68, 3) := by decide +kernel
theorem dX6_start_112 : decode cX6_start 112 = .ok (.iastore, 1) := by decide +kernel
theorem dX6_start_113 : decode cX6_start 113 = .ok (.aload_n 0, 1) := by decide +kernel
theorem dX6_start_114 : decode cX6_start 114 = .ok (.getfield 27, 3) := by decide +kernel
theorem dX6_start_117 : decode cX6_start 117 = .ok (.aload_n 0, 1) := by decide +kernel
theorem dX6_start_118 : decode cX6_start 118 = .ok (.getfield 71, 3) := by decide +kernel
theorem dX6_start_121 : decode cX6_start 121 = .ok (.iload_n 3, 1) := by decide +kernel
theorem dX6_start_122 : decode cX6_start 122 = .ok (.iastore, 1) := by decide +kernel
theorem dX6_start_123 : decode cX6_start 123 = .ok (.aload_n 0, 1) := by decide +kernel
theorem dX6_start_124 : decode cX6_start 124 = .ok (.getfield 30, 3) := by decide +kernel
theorem dX6_start_127 : decode cX6_start 127 = .ok (.aload_n 0, 1) := by decide +kernel
theorem dX6_start_128 : decode cX6_start 128 = .ok (.getfield 71, 3) := by decide +kernel
theorem dX6_start_131 : decode cX6_start 131 = .ok (.aload_n 0, 1) := by decide +kernel
theorem dX6_start_132 : decode cX6_start 132 = .ok (.getfield 8, 3) := by decide +kernel
theorem dX6_start_135 : decode cX6_start 135 = .ok (.iload_n 1, 1) := by decide +kernel
theorem dX6_start_136 : decode cX6_start 136 = .ok (.iload_n 3, 1) := by decide +kernel
theorem dX6_start_137 : decode cX6_start 137 = .ok (.iadd, 1) := by decide +kernel
theorem dX6_start_138 : decode cX6_start 138 = .ok (.iconst 1, 1) := by decide +kernel
theorem dX6_start_139 : decode cX6_start 139 = .ok (.iadd, 1) := by decide +kernel
theorem dX6_start_140 : decode cX6_start 140 = .ok (.iaload, 1) := by decide +kernel
theorem dX6_start_141 : decode cX6_start 141 = .ok (.iastore, 1) := by decide +kernel
theorem dX6_start_142 : decode cX6_start 142 = .ok (.iload_n 3, 1) := by decide +kernel
theorem dX6_start_143 : decode cX6_start 143 = .ok (.iconst 2, 1) := by decide +kernel
theorem dX6_start_144 : decode cX6_start 144 = .ok (.aload_n 0, 1) := by decide +kernel
theorem dX6_start_145 : decode cX6_start 145 = .ok (.getfield 8, 3) := by decide +kernel
theorem dX6_start_148 : decode cX6_start 148 = .ok (.iload_n 1, 1) := by decide +kernel
theorem dX6_start_149 : decode cX6_start 149 = .ok (.iload_n 3, 1) := by decide +kernel
theorem dX6_start_150 : decode cX6_start 150 = .ok (.iadd, 1) := by decide +kernel
theorem dX6_start_151 : decode cX6_start 151 = .ok (.iconst 1, 1) := by decide +kernel
theorem dX6_start_152 : decode cX6_start 152 = .ok (.iadd, 1) := by decide +kernel
theorem dX6_start_153 : decode cX6_start 153 = .ok (.iaload, 1) := by decide +kernel
theorem dX6_start_154 : decode cX6_start 154 = .ok (.iadd, 1) := by decide +kernel
theorem dX6_start_155 : decode cX6_start 155 = .ok (.iadd, 1) := by decide +kernel
theorem dX6_start_156 : decode cX6_start 156 = .ok (.istore_n 3, 1) := by decide +kernel
theorem dX6_start_157 : decode cX6_start 157 = .ok (.aload_n 0, 1) := by decide +kernel
theorem dX6_start_158 : decode cX6_start 158 = .ok (.dup, 1) := by decide +kernel
theorem dX6_start_159 : decode cX6_start 159 = .ok (.getfield 71, 3) := by decide +kernel
theorem dX6_start_162 : decode cX6_start 162 = .ok (.iconst 1, 1) := by decide +kernel
theorem dX6_start_163 : decode cX6_start 163 = .ok (.iadd, 1) := by decide +kernel
theorem dX6_start_164 : decode cX6_start 164 = .ok (.putfield 71, 3) := by decide +kernel
theorem dX6_start_167 : decode cX6_start 167 = .ok (.iinc 4 1, 3) := by decide +kernel
theorem dX6_start_170 : decode cX6_start 170 = .ok (.goto (-76), 3) := by decide +kernel
theorem dX6_start_173 : decode cX6_start 173 = .ok (.aload_n 0, 1) := by decide +kernel
theorem dX6_start_174 : decode cX6_start 174 = .ok (.dup, 1) := by decide +kernel
theorem dX6_start_175 : decode cX6_start 175 = .ok (.getfield 68, 3) := by decide +kernel
theorem dX6_start_178 : decode cX6_start 178 = .ok (.iconst 1, 1) := by decide +kernel
theorem dX6_start_179 : decode cX6_start 179 = .ok (.iadd, 1) := by decide +kernel
theorem dX6_start_180 : decode cX6_start 180 = .ok (.putfield 68, 3) := by decide +kernel
theorem dX6_start_183 : decode cX6_start 183 = .ok (.goto (-134), 3) := by decide +kernel
theorem dX6_start_186 : decode cX6_start 186 = .ok (.aload_n 0, 1) := by decide +kernel
theorem dX6_start_187 : decode cX6_start 187 = .ok (.iconst 0, 1) := by decide +kernel
theorem dX6_start_188 : decode cX6_start 188 = .ok (.putfield 77, 3) := by decide +kernel
theorem dX6_start_191 : decode cX6_start 191 = .ok (.aload_n 0, 1) := by decide +kernel
theorem dX6_start_192 : decode cX6_start 192 = .ok (.lconst 0, 1) := by decide +kernel
theorem dX6_start_193 : decode cX6_start 193 = .ok (.putfield 80, 3) := by decide +kernel
theorem dX6_start_196 : decode cX6_start 196 = .ok (.aload_n 0, 1) := by decide +kernel
theorem dX6_start_197 : decode cX6_start 197 = .ok (.aload_n 0, 1) := by decide +kernel
theorem dX6_start_198 : decode cX6_start 198 = .ok (.getfield 62, 3) := by decide +kernel
theorem dX6_start_201 : decode cX6_start 201 = .ok (.iconst 2, 1) := by decide +kernel
theorem dX6_start_202 : decode cX6_start 202 = .ok (.isub, 1) := by decide +kernel
theorem dX6_start_203 : decode cX6_start 203 = .ok (.invokevirtual 151, 3) := by decide +kernel
theorem dX6_start_206 : decode cX6_start 206 = .ok (.aload_n 0, 1) := by decide +kernel
theorem dX6_start_207 : decode cX6_start 207 = .ok (.aload_n 0, 1) := by decide +kernel
theorem dX6_start_208 : decode cX6_start 208 = .ok (.getfield 62, 3) := by decide +kernel
theorem dX6_start_211 : decode cX6_start 211 = .ok (.iconst 1, 1) := by decide +kernel
theorem dX6_start_212 : decode cX6_start 212 = .ok (.isub, 1) := by decide +kernel
theorem dX6_start_213 : decode cX6_start 213 = .ok (.invokevirtual 151, 3) := by decide +kernel
theorem dX6_start_216 : decode cX6_start 216 = .ok (.aload_n 0, 1) := by decide +kernel
theorem dX6_start_217 : decode cX6_start 217 = .ok (.aload_n 0, 1) := by decide +kernel
theorem dX6_start_218 : decode cX6_start 218 = .ok (.getfield 90, 3) := by decide +kernel
theorem dX6_start_221 : decode cX6_start 221 = .ok (.aload_n 0, 1) := by decide +kernel
theorem dX6_start_222 : decode cX6_start 222 = .ok (.getfield 71, 3) := by decide +kernel
theorem dX6_start_225 : decode cX6_start 225 = .ok (.if_icmp .ge 10, 3) := by decide +kernel
theorem dX6_start_228 : decode cX6_start 228 = .ok (.aload_n 0, 1) := by decide +kernel
theorem dX6_start_229 : decode cX6_start 229 = .ok (.getfield 90, 3) := by decide +kernel
theorem dX6_start_232 : decode cX6_start 232 = .ok (.goto 7, 3) := by decide +kernel
theorem dX6_start_235 : decode cX6_start 235 = .ok (.aload_n 0, 1) := by decide +kernel
theorem dX6_start_236 : decode cX6_start 236 = .ok (.getfield 71, 3) := by decide +kernel
theorem dX6_start_239 : decode cX6_start 239 = .ok (.putfield 90, 3) := by decide +kernel
theorem dX6_start_242 : decode cX6_start 242 = .ok (.aload_n 0, 1) := by decide +kernel
theorem dX6_start_243 : decode cX6_start 243 = .ok (.getfield 71, 3) := by decide +kernel
theorem dX6_start_246 : decode cX6_start 246 = .ok (.istore_n 1, 1) := by decide +kernel
theorem dX6_start_247 : decode cX6_start 247 = .ok (.iload_n 1, 1) := by decide +kernel
theorem dX6_start_248 : decode cX6_start 248 = .ok (.sipush 5100, 3) := by decide +kernel
theorem dX6_start_251 : decode cX6_start 251 = .ok (.if_icmp .ge 16, 3) := by decide +kernel
theorem dX6_start_254 : decode cX6_start 254 = .ok (.aload_n 0, 1) := by decide +kernel
theorem dX6_start_255 : decode cX6_start 255 = .ok (.getfield 33, 3) := by decide +kernel
theorem dX6_start_258 : decode cX6_start 258 = .ok (.iload_n 1, 1) := by decide +kernel
theorem dX6_start_259 : decode cX6_start 259 = .ok (.iconst 0, 1) := by decide +kernel
theorem dX6_start_260 : decode cX6_start 260 = .ok (.bastore, 1) := by decide +kernel
theorem dX6_start_261 : decode cX6_start 261 = .ok (.iinc 1 1, 3) := by decide +kernel
theorem dX6_start_264 : decode cX6_start 264 = .ok (.goto (-17), 3) := by decide +kernel
theorem dX6_start_267 : decode cX6_start 267 = .ok (.aload_n 0, 1) := by decide +kernel
theorem dX6_start_268 : decode cX6_start 268 = .ok (.getfield 71, 3) := by decide +kernel
theorem dX6_start_271 : decode cX6_start 271 = .ok (.ireturn, 1) := by decide +kernel
theorem dX6_alter_0 : decode cX6_alter 0 = .ok (.iload_n 1, 1) := by decide +kernel
theorem dX6_alter_1 : decode cX6_alter 1 = .ok (.iconst 0, 1) := by decide +kernel
theorem dX6_alter_2 : decode cX6_alter 2 = .ok (.iconst 1, 1) := by decide +kernel
theorem dX6_alter_3 : decode cX6_alter 3 = .ok (.invokestatic 54, 3) := by decide +kernel
theorem dX6_alter_6 : decode cX6_alter 6 = .ok (.ifCond .eq 28, 3) := by decide +kernel
theorem dX6_alter_9 : decode cX6_alter 9 = .ok (.iload_n 2, 1) := by decide +kernel
theorem dX6_alter_10 : decode cX6_alter 10 = .ok (.iconst 0, 1) := by decide +kernel
theorem dX6_alter_11 : decode cX6_alter 11 = .ok (.aload_n 0, 1) := by decide +kernel
theorem dX6_alter_12 : decode cX6_alter 12 = .ok (.getfield 62, 3) := by decide +kernel
theorem dX6_alter_15 : decode cX6_alter 15 = .ok (.iconst 1, 1) := by decide +kernel
theorem dX6_alter_16 : decode cX6_alter 16 = .ok (.isub, 1) := by decide +kernel
theorem dX6_alter_17 : decode cX6_alter 17 = .ok (.invokestatic 54, 3) := by decide +kernel
theorem dX6_alter_20 : decode cX6_alter 20 = .ok (.ifCond .eq 14, 3) := by decide +kernel
theorem dX6_alter_23 : decode cX6_alter 23 = .ok (.iload_n 3, 1) := by decide +kernel
theorem dX6_alter_24 : decode cX6_alter 24 = .ok (.iconst 0, 1) := by decide +kernel
theorem dX6_alter_25 : decode cX6_alter 25 = .ok (.sipush 511, 3) := by decide +kernel
theorem dX6_alter_28 : decode cX6_alter 28 = .ok (.invokestatic 54, 3) := by decide +kernel
theorem dX6_alter_31 : decode cX6_alter 31 = .ok (.ifCond .ne 7, 3) := by decide +kernel
theorem dX6_alter_34 : decode cX6_alter 34 = .ok (.iconst 1, 1) := by decide +kernel
theorem dX6_alter_35 : decode cX6_alter 35 = .ok (.goto 4, 3) := by decide +kernel
theorem dX6_alter_38 : decode cX6_alter 38 = .ok (.iconst 0, 1) := by decide +kernel
theorem dX6_alter_39 : decode cX6_alter 39 = .ok (.istore 5, 2) := by decide +kernel
theorem dX6_alter_41 : decode cX6_alter 41 = .ok (.aload_n 0, 1) := by decide +kernel
theorem dX6_alter_42 : decode cX6_alter 42 = .ok (.iload 5, 2) := by decide +kernel
theorem dX6_alter_44 : decode cX6_alter 44 = .ok (.iload 4, 2) := by decide +kernel
theorem dX6_alter_46 : decode cX6_alter 46 = .ok (.iconst 1, 1) := by decide +kernel
theorem dX6_alter_47 : decode cX6_alter 47 = .ok (.sipush 255, 3) := by decide +kernel
theorem dX6_alter_50 : decode cX6_alter 50 = .ok (.invokestatic 54, 3) := by decide +kernel
theorem dX6_alter_53 : decode cX6_alter 53 = .ok (.ifCond .ne 7, 3) := by decide +kernel
theorem dX6_alter_56 : decode cX6_alter 56 = .ok (.iconst 1, 1) := by decide +kernel
theorem dX6_alter_57 : decode cX6_alter 57 = .ok (.goto 4, 3) := by decide +kernel
theorem dX6_alter_60 : decode cX6_alter 60 = .ok (.iconst 0, 1) := by decide +kernel
theorem dX6_alter_61 : decode cX6_alter 61 = .ok (.aload_n 0, 1) := by decide +kernel
theorem dX6_alter_62 : decode cX6_alter 62 = .ok (.getfield 62, 3) := by decide +kernel
theorem dX6_alter_65 : decode cX6_alter 65 = .ok (.ifCond .ne 7, 3) := by decide +kernel
theorem dX6_alter_68 : decode cX6_alter 68 = .ok (.iconst 1, 1) := by decide +kernel
theorem dX6_alter_69 : decode cX6_alter 69 = .ok (.goto 4, 3) := by decide +kernel
theorem dX6_alter_72 : decode cX6_alter 72 = .ok (.iconst 0, 1) := by decide +kernel
theorem dX6_alter_73 : decode cX6_alter 73 = .ok (.iconst 0, 1) := by decide +kernel
theorem dX6_alter_74 : decode cX6_alter 74 = .ok (.invokevirtual 58, 3) := by decide +kernel
theorem dX6_alter_77 : decode cX6_alter 77 = .ok (.ifCond .eq 4, 3) := by decide +kernel
theorem dX6_alter_80 : decode cX6_alter 80 = .ok (.return_, 1) := by decide +kernel
theorem dX6_alter_81 : decode cX6_alter 81 = .ok (.aload_n 0, 1) := by decide +kernel
theorem dX6_alter_82 : decode cX6_alter 82 = .ok (.getfield 8, 3) := by decide +kernel
theorem dX6_alter_85 : decode cX6_alter 85 = .ok (.iload_n 1, 1) := by decide +kernel
theorem dX6_alter_86 : decode cX6_alter 86 = .ok (.iload_n 2, 1) := by decide +kernel
theorem dX6_alter_87 : decode cX6_alter 87 = .ok (.invokestatic 105, 3) := by decide +kernel
theorem dX6_alter_90 : decode cX6_alter 90 = .ok (.iload_n 3, 1) := by decide +kernel
theorem dX6_alter_91 : decode cX6_alter 91 = .ok (.iadd, 1) := by decide +kernel
theorem dX6_alter_92 : decode cX6_alter 92 = .ok (.dup2, 1) := by decide +kernel
theorem dX6_alter_93 : decode cX6_alter 93 = .ok (.iaload, 1) := by decide +kernel
theorem dX6_alter_94 : decode cX6_alter 94 = .ok (.iload 4, 2) := by decide +kernel
theorem dX6_alter_96 : decode cX6_alter 96 = .ok (.ixor, 1) := by decide +kernel
theorem dX6_alter_97 : decode cX6_alter 97 = .ok (.iastore, 1) := by decide +kernel
theorem dX6_alter_98 : decode cX6_alter 98 = .ok (.return_, 1) := by decide +kernel
theorem dX6_read_0 : decode cX6_read 0 = .ok (.aload_n 0, 1) := by decide +kernel
theorem dX6_read_1 : decode cX6_read 1 = .ok (.iload_n 1, 1) := by decide +kernel
theorem dX6_read_2 : decode cX6_read 2 = .ok (.iload_n 2, 1) := by decide +kernel
theorem dX6_read_3 : decode cX6_read 3 = .ok (.ifCond .ge 7, 3) := by decide +kernel
theorem dX6_read_6 : decode cX6_read 6 = .ok (.iconst 1, 1) := by decide +kernel
theorem dX6_read_7 : decode cX6_read 7 = .ok (.goto 4, 3) := by decide +kernel
theorem dX6_read_10 : decode cX6_read 10 = .ok (.iconst 0, 1) := by decide +kernel
theorem dX6_read_11 : decode cX6_read 11 = .ok (.iconst 3, 1) := by decide +kernel
theorem dX6_read_12 : decode cX6_read 12 = .ok (.invokevirtual 154, 3) := by decide +kernel
theorem dX6_read_15 : decode cX6_read 15 = .ok (.ifCond .eq 5, 3) := by decide +kernel
theorem dX6_read_18 : decode cX6_read 18 = .ok (.iconst 0, 1) := by decide +kernel
theorem dX6_read_19 : decode cX6_read 19 = .ok (.ireturn, 1) := by decide +kernel
theorem dX6_read_20 : decode cX6_read 20 = .ok (.aload_n 0, 1) := by decide +kernel
theorem dX6_read_21 : decode cX6_read 21 = .ok (.iload_n 1, 1) := by decide +kernel
theorem dX6_read_22 : decode cX6_read 22 = .ok (.invokevirtual 158, 3) := by decide +kernel
theorem dX6_read_25 : decode cX6_read 25 = .ok (.istore_n 3, 1) := by decide +kernel
theorem dX6_read_26 : decode cX6_read 26 = .ok (.iload_n 3, 1) := by decide +kernel
theorem dX6_read_27 : decode cX6_read 27 = .ok (.ifCond .ge 6, 3) := by decide +kernel
theorem dX6_read_30 : decode cX6_read 30 = .ok (.bipush (-2), 2) := by decide +kernel
theorem dX6_read_32 : decode cX6_read 32 = .ok (.ireturn, 1) := by decide +kernel
theorem dX6_read_33 : decode cX6_read 33 = .ok (.iload_n 2, 1) := by decide +kernel
theorem dX6_read_34 : decode cX6_read 34 = .ok (.aload_n 0, 1) := by decide +kernel
theorem dX6_read_35 : decode cX6_read 35 = .ok (.getfield 30, 3) := by decide +kernel
theorem dX6_read_38 : decode cX6_read 38 = .ok (.iload_n 1, 1) := by decide +kernel
theorem dX6_read_39 : decode cX6_read 39 = .ok (.iaload, 1) := by decide +kernel
theorem dX6_read_40 : decode cX6_read 40 = .ok (.if_icmp .ge 16, 3) := by decide +kernel
theorem dX6_read_43 : decode cX6_read 43 = .ok (.aload_n 0, 1) := by decide +kernel
theorem dX6_read_44 : decode cX6_read 44 = .ok (.getfield 8, 3) := by decide +kernel
theorem dX6_read_47 : decode cX6_read 47 = .ok (.iload_n 3, 1) := by decide +kernel
theorem dX6_read_48 : decode cX6_read 48 = .ok (.iconst 2, 1) := by decide +kernel
theorem dX6_read_49 : decode cX6_read 49 = .ok (.iadd, 1) := by decide +kernel
theorem dX6_read_50 : decode cX6_read 50 = .ok (.iload_n 2, 1) := by decide +kernel
theorem dX6_read_51 : decode cX6_read 51 = .ok (.iadd, 1) := by decide +kernel
theorem dX6_read_52 : decode cX6_read 52 = .ok (.iaload, 1) := by decide +kernel
theorem dX6_read_53 : decode cX6_read 53 = .ok (.goto 4, 3) := by decide +kernel
theorem dX6_read_56 : decode cX6_read 56 = .ok (.iconst (-1), 1) := by decide +kernel
theorem dX6_read_57 : decode cX6_read 57 = .ok (.ireturn, 1) := by decide +kernel
theorem dX6_kind_0 : decode cX6_kind 0 = .ok (.aload_n 0, 1) := by decide +kernel
theorem dX6_kind_1 : decode cX6_kind 1 = .ok (.iload_n 1, 1) := by decide +kernel
theorem dX6_kind_2 : decode cX6_kind 2 = .ok (.iconst 0, 1) := by decide +kernel
theorem dX6_kind_3 : decode cX6_kind 3 = .ok (.iconst 2, 1) := by decide +kernel
theorem dX6_kind_4 : decode cX6_kind 4 = .ok (.invokevirtual 154, 3) := by decide +kernel
theorem dX6_kind_7 : decode cX6_kind 7 = .ok (.ifCond .eq 5, 3) := by decide +kernel
theorem dX6_kind_10 : decode cX6_kind 10 = .ok (.iconst 0, 1) := by decide +kernel
theorem dX6_kind_11 : decode cX6_kind 11 = .ok (.ireturn, 1) := by decide +kernel
theorem dX6_kind_12 : decode cX6_kind 12 = .ok (.aload_n 0, 1) := by decide +kernel
theorem dX6_kind_13 : decode cX6_kind 13 = .ok (.iload_n 1, 1) := by decide +kernel
theorem dX6_kind_14 : decode cX6_kind 14 = .ok (.invokevirtual 158, 3) := by decide +kernel
theorem dX6_kind_17 : decode cX6_kind 17 = .ok (.istore_n 2, 1) := by decide +kernel
theorem dX6_kind_18 : decode cX6_kind 18 = .ok (.iload_n 2, 1) := by decide +kernel
theorem dX6_kind_19 : decode cX6_kind 19 = .ok (.ifCond .ge 8, 3) := by decide +kernel
theorem dX6_kind_22 : decode cX6_kind 22 = .ok (.bipush (-2), 2) := by decide +kernel
theorem dX6_kind_24 : decode cX6_kind 24 = .ok (.goto 9, 3) := by decide +kernel
theorem dX6_kind_27 : decode cX6_kind 27 = .ok (.aload_n 0, 1) := by decide +kernel
theorem dX6_kind_28 : decode cX6_kind 28 = .ok (.getfield 8, 3) := by decide +kernel
theorem dX6_kind_31 : decode cX6_kind 31 = .ok (.iload_n 2, 1) := by decide +kernel
theorem dX6_kind_32 : decode cX6_kind 32 = .ok (.iaload, 1) := by decide +kernel
theorem dX6_kind_33 : decode cX6_kind 33 = .ok (.ireturn, 1) := by decide +kernel
theorem dX6_extract_0 : decode cX6_extract 0 = .ok (.aload_n 0, 1) := by decide +kernel
theorem dX6_extract_1 : decode cX6_extract 1 = .ok (.aload_n 0, 1) := by decide +kernel
theorem dX6_extract_2 : decode cX6_extract 2 = .ok (.getfield 65, 3) := by decide +kernel
theorem dX6_extract_5 : decode cX6_extract 5 = .ok (.ifCond .ne 7, 3) := by decide +kernel
theorem dX6_extract_8 : decode cX6_extract 8 = .ok (.iconst 2, 1) := by decide +kernel
theorem dX6_extract_9 : decode cX6_extract 9 = .ok (.goto 25, 3) := by decide +kernel
theorem dX6_extract_12 : decode cX6_extract 12 = .ok (.iload_n 1, 1) := by decide +kernel
theorem dX6_extract_13 : decode cX6_extract 13 = .ok (.ifCond .lt 16, 3) := by decide +kernel
theorem dX6_extract_16 : decode cX6_extract 16 = .ok (.iload_n 2, 1) := by decide +kernel
theorem dX6_extract_17 : decode cX6_extract 17 = .ok (.iload_n 1, 1) := by decide +kernel
theorem dX6_extract_18 : decode cX6_extract 18 = .ok (.if_icmp .lt 11, 3) := by decide +kernel
theorem dX6_extract_21 : decode cX6_extract 21 = .ok (.iload_n 2, 1) := by decide +kernel
theorem dX6_extract_22 : decode cX6_extract 22 = .ok (.aload_n 0, 1) := by decide +kernel
theorem dX6_extract_23 : decode cX6_extract 23 = .ok (.getfield 71, 3) := by decide +kernel
theorem dX6_extract_26 : decode cX6_extract 26 = .ok (.if_icmp .le 7, 3) := by decide +kernel
theorem dX6_extract_29 : decode cX6_extract 29 = .ok (.iconst 1, 1) := by decide +kernel
theorem dX6_extract_30 : decode cX6_extract 30 = .ok (.goto 4, 3) := by decide +kernel
theorem dX6_extract_33 : decode cX6_extract 33 = .ok (.iconst 0, 1) := by decide +kernel
theorem dX6_extract_34 : decode cX6_extract 34 = .ok (.putfield 51, 3) := by decide +kernel
theorem dX6_extract_37 : decode cX6_extract 37 = .ok (.aload_n 0, 1) := by decide +kernel
theorem dX6_extract_38 : decode cX6_extract 38 = .ok (.getfield 51, 3) := by decide +kernel
theorem dX6_extract_41 : decode cX6_extract 41 = .ok (.ifCond .le 5, 3) := by decide +kernel
theorem dX6_extract_44 : decode cX6_extract 44 = .ok (.iconst 0, 1) := by decide +kernel
theorem dX6_extract_45 : decode cX6_extract 45 = .ok (.ireturn, 1) := by decide +kernel
theorem dX6_extract_46 : decode cX6_extract 46 = .ok (.iconst 0, 1) := by decide +kernel
theorem dX6_extract_47 : decode cX6_extract 47 = .ok (.istore_n 3, 1) := by decide +kernel
theorem dX6_extract_48 : decode cX6_extract 48 = .ok (.iload_n 1, 1) := by decide +kernel
theorem dX6_extract_49 : decode cX6_extract 49 = .ok (.istore 4, 2) := by decide +kernel
theorem dX6_extract_51 : decode cX6_extract 51 = .ok (.iload 4, 2) := by decide +kernel
theorem dX6_extract_53 : decode cX6_extract 53 = .ok (.iload_n 2, 1) := by decide +kernel
theorem dX6_extract_54 : decode cX6_extract 54 = .ok (.if_icmp .ge 72, 3) := by decide +kernel
theorem dX6_extract_57 : decode cX6_extract 57 = .ok (.aload_n 0, 1) := by decide +kernel
theorem dX6_extract_58 : decode cX6_extract 58 = .ok (.iload 4, 2) := by decide +kernel
theorem dX6_extract_60 : decode cX6_extract 60 = .ok (.invokevirtual 158, 3) := by decide +kernel
theorem dX6_extract_63 : decode cX6_extract 63 = .ok (.istore 5, 2) := by decide +kernel
theorem dX6_extract_65 : decode cX6_extract 65 = .ok (.iload 5, 2) := by decide +kernel
theorem dX6_extract_67 : decode cX6_extract 67 = .ok (.ifCond .lt 53, 3) := by decide +kernel
theorem dX6_extract_70 : decode cX6_extract 70 = .ok (.iload_n 3, 1) := by decide +kernel
theorem dX6_extract_71 : decode cX6_extract 71 = .ok (.aload_n 0, 1) := by decide +kernel
theorem dX6_extract_72 : decode cX6_extract 72 = .ok (.getfield 8, 3) := by decide +kernel
theorem dX6_extract_75 : decode cX6_extract 75 = .ok (.iload 5, 2) := by decide +kernel
theorem dX6_extract_77 : decode cX6_extract 77 = .ok (.iaload, 1) := by decide +kernel
theorem dX6_extract_78 : decode cX6_extract 78 = .ok (.invokestatic 94, 3) := by decide +kernel
theorem dX6_extract_81 : decode cX6_extract 81 = .ok (.istore_n 3, 1) := by decide +kernel
theorem dX6_extract_82 : decode cX6_extract 82 = .ok (.iconst 0, 1) := by decide +kernel
theorem dX6_extract_83 : decode cX6_extract 83 = .ok (.istore 6, 2) := by decide +kernel
theorem dX6_extract_85 : decode cX6_extract 85 = .ok (.iload 6, 2) := by decide +kernel
theorem dX6_extract_87 : decode cX6_extract 87 = .ok (.aload_n 0, 1) := by decide +kernel
theorem dX6_extract_88 : decode cX6_extract 88 = .ok (.getfield 30, 3) := by decide +kernel
theorem dX6_extract_91 : decode cX6_extract 91 = .ok (.iload 4, 2) := by decide +kernel
theorem dX6_extract_93 : decode cX6_extract 93 = .ok (.iaload, 1) := by decide +kernel
theorem dX6_extract_94 : decode cX6_extract 94 = .ok (.if_icmp .ge 26, 3) := by decide +kernel
theorem dX6_extract_97 : decode cX6_extract 97 = .ok (.iload_n 3, 1) := by decide +kernel
theorem dX6_extract_98 : decode cX6_extract 98 = .ok (.aload_n 0, 1) := by decide +kernel
theorem dX6_extract_99 : decode cX6_extract 99 = .ok (.getfield 8, 3) := by decide +kernel
theorem dX6_extract_102 : decode cX6_extract 102 = .ok (.iload 5, 2) := by decide +kernel
theorem dX6_extract_104 : decode cX6_extract 104 = .ok (.iconst 2, 1) := by decide +kernel
theorem dX6_extract_105 : decode cX6_extract 105 = .ok (.iadd, 1) := by decide +kernel
theorem dX6_extract_106 : decode cX6_extract 106 = .ok (.iload 6, 2) := by decide +kernel
theorem dX6_extract_108 : decode cX6_extract 108 = .ok (.iadd, 1) := by decide +kernel
theorem dX6_extract_109 : decode cX6_extract 109 = .ok (.iaload, 1) := by decide +kernel
theorem dX6_extract_110 : decode cX6_extract 110 = .ok (.invokestatic 94, 3) := by decide +kernel
theorem dX6_extract_113 : decode cX6_extract 113 = .ok (.istore_n 3, 1) := by decide +kernel
theorem dX6_extract_114 : decode cX6_extract 114 = .ok (.iinc 6 1, 3) := by decide +kernel
theorem dX6_extract_117 : decode cX6_extract 117 = .ok (.goto (-32), 3) := by decide +kernel
theorem dX6_extract_120 : decode cX6_extract 120 = .ok (.iinc 4 1, 3) := by decide +kernel
theorem dX6_extract_123 : decode cX6_extract 123 = .ok (.goto (-72), 3) := by decide +kernel
theorem dX6_extract_126 : decode cX6_extract 126 = .ok (.iload_n 3, 1) := by decide +kernel
theorem dX6_extract_127 : decode cX6_extract 127 = .ok (.ireturn, 1) := by decide +kernel
theorem dX6_line_0 : decode cX6_line 0 = .ok (.aload_n 0, 1) := by decide +kernel
theorem dX6_line_1 : decode cX6_line 1 = .ok (.aload_n 0, 1) := by decide +kernel
theorem dX6_line_2 : decode cX6_line 2 = .ok (.getfield 65, 3) := by decide +kernel
theorem dX6_line_5 : decode cX6_line 5 = .ok (.ifCond .eq 11, 3) := by decide +kernel
theorem dX6_line_8 : decode cX6_line 8 = .ok (.aload_n 0, 1) := by decide +kernel
theorem dX6_line_9 : decode cX6_line 9 = .ok (.getfield 47, 3) := by decide +kernel
theorem dX6_line_12 : decode cX6_line 12 = .ok (.iload_n 1, 1) := by decide +kernel
theorem dX6_line_13 : decode cX6_line 13 = .ok (.if_icmp .ne 7, 3) := by decide +kernel
theorem dX6_line_16 : decode cX6_line 16 = .ok (.iconst 1, 1) := by decide +kernel
theorem dX6_line_17 : decode cX6_line 17 = .ok (.goto 4, 3) := by decide +kernel
theorem dX6_line_20 : decode cX6_line 20 = .ok (.iconst 0, 1) := by decide +kernel
theorem dX6_line_21 : decode cX6_line 21 = .ok (.iconst 0, 1) := by decide +kernel
theorem dX6_line_22 : decode cX6_line 22 = .ok (.iconst 0, 1) := by decide +kernel
theorem dX6_line_23 : decode cX6_line 23 = .ok (.iconst 0, 1) := by decide +kernel
theorem dX6_line_24 : decode cX6_line 24 = .ok (.invokevirtual 58, 3) := by decide +kernel
theorem dX6_line_27 : decode cX6_line 27 = .ok (.ifCond .eq 4, 3) := by decide +kernel
theorem dX6_line_30 : decode cX6_line 30 = .ok (.return_, 1) := by decide +kernel
theorem dX6_line_31 : decode cX6_line 31 = .ok (.aload_n 0, 1) := by decide +kernel
theorem dX6_line_32 : decode cX6_line 32 = .ok (.iload_n 1, 1) := by decide +kernel
theorem dX6_line_33 : decode cX6_line 33 = .ok (.putfield 47, 3) := by decide +kernel
theorem dX6_line_36 : decode cX6_line 36 = .ok (.return_, 1) := by decide +kernel
theorem dX6_send_0 : decode cX6_send 0 = .ok (.aload_n 0, 1) := by decide +kernel
theorem dX6_send_1 : decode cX6_send 1 = .ok (.iload_n 1, 1) := by decide +kernel
theorem dX6_send_2 : decode cX6_send 2 = .ok (.iconst 0, 1) := by decide +kernel
theorem dX6_send_3 : decode cX6_send 3 = .ok (.bipush 100, 2) := by decide +kernel
theorem dX6_send_5 : decode cX6_send 5 = .ok (.invokestatic 54, 3) := by decide +kernel
theorem dX6_send_8 : decode cX6_send 8 = .ok (.ifCond .ne 7, 3) := by decide +kernel
theorem dX6_send_11 : decode cX6_send 11 = .ok (.iconst 1, 1) := by decide +kernel
theorem dX6_send_12 : decode cX6_send 12 = .ok (.goto 4, 3) := by decide +kernel
theorem dX6_send_15 : decode cX6_send 15 = .ok (.iconst 0, 1) := by decide +kernel
theorem dX6_send_16 : decode cX6_send 16 = .ok (.aload_n 0, 1) := by decide +kernel
theorem dX6_send_17 : decode cX6_send 17 = .ok (.getfield 65, 3) := by decide +kernel
theorem dX6_send_20 : decode cX6_send 20 = .ok (.ifCond .ne 7, 3) := by decide +kernel
theorem dX6_send_23 : decode cX6_send 23 = .ok (.iconst 1, 1) := by decide +kernel
theorem dX6_send_24 : decode cX6_send 24 = .ok (.goto 4, 3) := by decide +kernel
theorem dX6_send_27 : decode cX6_send 27 = .ok (.iconst 0, 1) := by decide +kernel
theorem dX6_send_28 : decode cX6_send 28 = .ok (.iconst 0, 1) := by decide +kernel
theorem dX6_send_29 : decode cX6_send 29 = .ok (.iconst 0, 1) := by decide +kernel
theorem dX6_send_30 : decode cX6_send 30 = .ok (.invokevirtual 58, 3) := by decide +kernel
theorem dX6_send_33 : decode cX6_send 33 = .ok (.ifCond .eq 5, 3) := by decide +kernel
theorem dX6_send_36 : decode cX6_send 36 = .ok (.iconst 0, 1) := by decide +kernel
theorem dX6_send_37 : decode cX6_send 37 = .ok (.ireturn, 1) := by decide +kernel
theorem dX6_send_38 : decode cX6_send 38 = .ok (.iconst 0, 1) := by decide +kernel
theorem dX6_send_39 : decode cX6_send 39 = .ok (.istore_n 2, 1) := by decide +kernel
theorem dX6_send_40 : decode cX6_send 40 = .ok (.iload_n 2, 1) := by decide +kernel
theorem dX6_send_41 : decode cX6_send 41 = .ok (.iload_n 1, 1) := by decide +kernel
theorem dX6_send_42 : decode cX6_send 42 = .ok (.if_icmp .ge 43, 3) := by decide +kernel
theorem dX6_send_45 : decode cX6_send 45 = .ok (.aload_n 0, 1) := by decide +kernel
theorem dX6_send_46 : decode cX6_send 46 = .ok (.getfield 90, 3) := by decide +kernel
theorem dX6_send_49 : decode cX6_send 49 = .ok (.aload_n 0, 1) := by decide +kernel
theorem dX6_send_50 : decode cX6_send 50 = .ok (.getfield 71, 3) := by decide +kernel
theorem dX6_send_53 : decode cX6_send 53 = .ok (.if_icmp .ge 32, 3) := by decide +kernel
theorem dX6_send_56 : decode cX6_send 56 = .ok (.aload_n 0, 1) := by decide +kernel
theorem dX6_send_57 : decode cX6_send 57 = .ok (.getfield 33, 3) := by decide +kernel
theorem dX6_send_60 : decode cX6_send 60 = .ok (.aload_n 0, 1) := by decide +kernel
theorem dX6_send_61 : decode cX6_send 61 = .ok (.getfield 90, 3) := by decide +kernel
theorem dX6_send_64 : decode cX6_send 64 = .ok (.aload_n 0, 1) := by decide +kernel
theorem dX6_send_65 : decode cX6_send 65 = .ok (.getfield 47, 3) := by decide +kernel
theorem dX6_send_68 : decode cX6_send 68 = .ok (.bastore, 1) := by decide +kernel
theorem dX6_send_69 : decode cX6_send 69 = .ok (.aload_n 0, 1) := by decide +kernel
theorem dX6_send_70 : decode cX6_send 70 = .ok (.dup, 1) := by decide +kernel
theorem dX6_send_71 : decode cX6_send 71 = .ok (.getfield 90, 3) := by decide +kernel
theorem dX6_send_74 : decode cX6_send 74 = .ok (.iconst 1, 1) := by decide +kernel
theorem dX6_send_75 : decode cX6_send 75 = .ok (.iadd, 1) := by decide +kernel
theorem dX6_send_76 : decode cX6_send 76 = .ok (.putfield 90, 3) := by decide +kernel
theorem dX6_send_79 : decode cX6_send 79 = .ok (.iinc 2 1, 3) := by decide +kernel
theorem dX6_send_82 : decode cX6_send 82 = .ok (.goto (-42), 3) := by decide +kernel
theorem dX6_send_85 : decode cX6_send 85 = .ok (.aload_n 0, 1) := by decide +kernel
theorem dX6_send_86 : decode cX6_send 86 = .ok (.invokevirtual 161, 3) := by decide +kernel
theorem dX6_send_89 : decode cX6_send 89 = .ok (.ireturn, 1) := by decide +kernel
theorem dX6_gap_0 : decode cX6_gap 0 = .ok (.aload_n 0, 1) := by decide +kernel
theorem dX6_gap_1 : decode cX6_gap 1 = .ok (.aload_n 0, 1) := by decide +kernel
theorem dX6_gap_2 : decode cX6_gap 2 = .ok (.getfield 65, 3) := by decide +kernel
theorem dX6_gap_5 : decode cX6_gap 5 = .ok (.ifCond .ne 7, 3) := by decide +kernel
theorem dX6_gap_8 : decode cX6_gap 8 = .ok (.iconst 2, 1) := by decide +kernel
theorem dX6_gap_9 : decode cX6_gap 9 = .ok (.goto 12, 3) := by decide +kernel
theorem dX6_gap_12 : decode cX6_gap 12 = .ok (.iload_n 1, 1) := by decide +kernel
theorem dX6_gap_13 : decode cX6_gap 13 = .ok (.ifCond .ge 7, 3) := by decide +kernel
theorem dX6_gap_16 : decode cX6_gap 16 = .ok (.iconst 1, 1) := by decide +kernel
theorem dX6_gap_17 : decode cX6_gap 17 = .ok (.goto 4, 3) := by decide +kernel
theorem dX6_gap_20 : decode cX6_gap 20 = .ok (.iconst 0, 1) := by decide +kernel
theorem dX6_gap_21 : decode cX6_gap 21 = .ok (.putfield 51, 3) := by decide +kernel
theorem dX6_gap_24 : decode cX6_gap 24 = .ok (.aload_n 0, 1) := by decide +kernel
theorem dX6_gap_25 : decode cX6_gap 25 = .ok (.getfield 51, 3) := by decide +kernel
theorem dX6_gap_28 : decode cX6_gap 28 = .ok (.ifCond .le 5, 3) := by decide +kernel
theorem dX6_gap_31 : decode cX6_gap 31 = .ok (.iconst 0, 1) := by decide +kernel
theorem dX6_gap_32 : decode cX6_gap 32 = .ok (.ireturn, 1) := by decide +kernel
theorem dX6_gap_33 : decode cX6_gap 33 = .ok (.iload_n 1, 1) := by decide +kernel
theorem dX6_gap_34 : decode cX6_gap 34 = .ok (.istore_n 2, 1) := by decide +kernel
theorem dX6_gap_35 : decode cX6_gap 35 = .ok (.iconst 0, 1) := by decide +kernel
theorem dX6_gap_36 : decode cX6_gap 36 = .ok (.istore_n 3, 1) := by decide +kernel
theorem dX6_gap_37 : decode cX6_gap 37 = .ok (.iload_n 3, 1) := by decide +kernel
theorem dX6_gap_38 : decode cX6_gap 38 = .ok (.aload_n 0, 1) := by decide +kernel
theorem dX6_gap_39 : decode cX6_gap 39 = .ok (.getfield 90, 3) := by decide +kernel
theorem dX6_gap_42 : decode cX6_gap 42 = .ok (.if_icmp .ge 76, 3) := by decide +kernel
theorem dX6_gap_45 : decode cX6_gap 45 = .ok (.iconst 0, 1) := by decide +kernel
theorem dX6_gap_46 : decode cX6_gap 46 = .ok (.istore 4, 2) := by decide +kernel
theorem dX6_gap_48 : decode cX6_gap 48 = .ok (.iload_n 3, 1) := by decide +kernel
theorem dX6_gap_49 : decode cX6_gap 49 = .ok (.iload 4, 2) := by decide +kernel
theorem dX6_gap_51 : decode cX6_gap 51 = .ok (.iadd, 1) := by decide +kernel
theorem dX6_gap_52 : decode cX6_gap 52 = .ok (.aload_n 0, 1) := by decide +kernel
theorem dX6_gap_53 : decode cX6_gap 53 = .ok (.getfield 90, 3) := by decide +kernel
theorem dX6_gap_56 : decode cX6_gap 56 = .ok (.if_icmp .ge 21, 3) := by decide +kernel
theorem dX6_gap_59 : decode cX6_gap 59 = .ok (.aload_n 0, 1) := by decide +kernel
theorem dX6_gap_60 : decode cX6_gap 60 = .ok (.getfield 33, 3) := by decide +kernel
theorem dX6_gap_63 : decode cX6_gap 63 = .ok (.iload_n 3, 1) := by decide +kernel
theorem dX6_gap_64 : decode cX6_gap 64 = .ok (.iload 4, 2) := by decide +kernel
theorem dX6_gap_66 : decode cX6_gap 66 = .ok (.iadd, 1) := by decide +kernel
theorem dX6_gap_67 : decode cX6_gap 67 = .ok (.baload, 1) := by decide +kernel
theorem dX6_gap_68 : decode cX6_gap 68 = .ok (.ifCond .ne 9, 3) := by decide +kernel
theorem dX6_gap_71 : decode cX6_gap 71 = .ok (.iinc 4 1, 3) := by decide +kernel
theorem dX6_gap_74 : decode cX6_gap 74 = .ok (.goto (-26), 3) := by decide +kernel
theorem dX6_gap_77 : decode cX6_gap 77 = .ok (.iload 4, 2) := by decide +kernel
theorem dX6_gap_79 : decode cX6_gap 79 = .ok (.ifCond .le 16, 3) := by decide +kernel
theorem dX6_gap_82 : decode cX6_gap 82 = .ok (.iload_n 2, 1) := by decide +kernel
theorem dX6_gap_83 : decode cX6_gap 83 = .ok (.ifCond .ne 12, 3) := by decide +kernel
theorem dX6_gap_86 : decode cX6_gap 86 = .ok (.sipush 10000, 3) := by decide +kernel
theorem dX6_gap_89 : decode cX6_gap 89 = .ok (.iload_n 3, 1) := by decide +kernel
theorem dX6_gap_90 : decode cX6_gap 90 = .ok (.imul, 1) := by decide +kernel
theorem dX6_gap_91 : decode cX6_gap 91 = .ok (.iload 4, 2) := by decide +kernel
theorem dX6_gap_93 : decode cX6_gap 93 = .ok (.iadd, 1) := by decide +kernel
theorem dX6_gap_94 : decode cX6_gap 94 = .ok (.ireturn, 1) := by decide +kernel
theorem dX6_gap_95 : decode cX6_gap 95 = .ok (.iload_n 2, 1) := by decide +kernel
theorem dX6_gap_96 : decode cX6_gap 96 = .ok (.iload 4, 2) := by decide +kernel
theorem dX6_gap_98 : decode cX6_gap 98 = .ok (.ifCond .le 7, 3) := by decide +kernel
theorem dX6_gap_101 : decode cX6_gap 101 = .ok (.iconst 1, 1) := by decide +kernel
theorem dX6_gap_102 : decode cX6_gap 102 = .ok (.goto 4, 3) := by decide +kernel
theorem dX6_gap_105 : decode cX6_gap 105 = .ok (.iconst 0, 1) := by decide +kernel
theorem dX6_gap_106 : decode cX6_gap 106 = .ok (.isub, 1) := by decide +kernel
theorem dX6_gap_107 : decode cX6_gap 107 = .ok (.istore_n 2, 1) := by decide +kernel
theorem dX6_gap_108 : decode cX6_gap 108 = .ok (.iload_n 3, 1) := by decide +kernel
theorem dX6_gap_109 : decode cX6_gap 109 = .ok (.iload 4, 2) := by decide +kernel
theorem dX6_gap_111 : decode cX6_gap 111 = .ok (.iconst 1, 1) := by decide +kernel
theorem dX6_gap_112 : decode cX6_gap 112 = .ok (.iadd, 1) := by decide +kernel
theorem dX6_gap_113 : decode cX6_gap 113 = .ok (.iadd, 1) := by decide +kernel
theorem dX6_gap_114 : decode cX6_gap 114 = .ok (.istore_n 3, 1) := by decide +kernel
theorem dX6_gap_115 : decode cX6_gap 115 = .ok (.goto (-78), 3) := by decide +kernel
theorem dX6_gap_118 : decode cX6_gap 118 = .ok (.iconst (-1), 1) := by decide +kernel
theorem dX6_gap_119 : decode cX6_gap 119 = .ok (.ireturn, 1) := by decide +kernel
theorem dX6_fill_0 : decode cX6_fill 0 = .ok (.aload_n 0, 1) := by decide +kernel
theorem dX6_fill_1 : decode cX6_fill 1 = .ok (.iload_n 1, 1) := by decide +kernel
theorem dX6_fill_2 : decode cX6_fill 2 = .ok (.iconst 0, 1) := by decide +kernel
theorem dX6_fill_3 : decode cX6_fill 3 = .ok (.bipush 100, 2) := by decide +kernel
theorem dX6_fill_5 : decode cX6_fill 5 = .ok (.invokestatic 54, 3) := by decide +kernel
theorem dX6_fill_8 : decode cX6_fill 8 = .ok (.ifCond .ne 7, 3) := by decide +kernel
theorem dX6_fill_11 : decode cX6_fill 11 = .ok (.iconst 1, 1) := by decide +kernel
theorem dX6_fill_12 : decode cX6_fill 12 = .ok (.goto 4, 3) := by decide +kernel
theorem dX6_fill_15 : decode cX6_fill 15 = .ok (.iconst 0, 1) := by decide +kernel
theorem dX6_fill_16 : decode cX6_fill 16 = .ok (.aload_n 0, 1) := by decide +kernel
theorem dX6_fill_17 : decode cX6_fill 17 = .ok (.getfield 65, 3) := by decide +kernel
theorem dX6_fill_20 : decode cX6_fill 20 = .ok (.ifCond .eq 10, 3) := by decide +kernel
theorem dX6_fill_23 : decode cX6_fill 23 = .ok (.aload_n 0, 1) := by decide +kernel
theorem dX6_fill_24 : decode cX6_fill 24 = .ok (.getfield 47, 3) := by decide +kernel
theorem dX6_fill_27 : decode cX6_fill 27 = .ok (.ifCond .ne 7, 3) := by decide +kernel
theorem dX6_fill_30 : decode cX6_fill 30 = .ok (.iconst 1, 1) := by decide +kernel
theorem dX6_fill_31 : decode cX6_fill 31 = .ok (.goto 4, 3) := by decide +kernel
theorem dX6_fill_34 : decode cX6_fill 34 = .ok (.iconst 0, 1) := by decide +kernel
theorem dX6_fill_35 : decode cX6_fill 35 = .ok (.iconst 0, 1) := by decide +kernel
theorem dX6_fill_36 : decode cX6_fill 36 = .ok (.iconst 0, 1) := by decide +kernel
theorem dX6_fill_37 : decode cX6_fill 37 = .ok (.invokevirtual 58, 3) := by decide +kernel
theorem dX6_fill_40 : decode cX6_fill 40 = .ok (.ifCond .eq 5, 3) := by decide +kernel
theorem dX6_fill_43 : decode cX6_fill 43 = .ok (.iconst 0, 1) := by decide +kernel
theorem dX6_fill_44 : decode cX6_fill 44 = .ok (.ireturn, 1) := by decide +kernel
theorem dX6_fill_45 : decode cX6_fill 45 = .ok (.iconst 0, 1) := by decide +kernel
theorem dX6_fill_46 : decode cX6_fill 46 = .ok (.istore_n 2, 1) := by decide +kernel
theorem dX6_fill_47 : decode cX6_fill 47 = .ok (.iconst 0, 1) := by decide +kernel
theorem dX6_fill_48 : decode cX6_fill 48 = .ok (.istore_n 3, 1) := by decide +kernel
theorem dX6_fill_49 : decode cX6_fill 49 = .ok (.iload_n 3, 1) := by decide +kernel
theorem dX6_fill_50 : decode cX6_fill 50 = .ok (.aload_n 0, 1) := by decide +kernel
theorem dX6_fill_51 : decode cX6_fill 51 = .ok (.getfield 90, 3) := by decide +kernel
theorem dX6_fill_54 : decode cX6_fill 54 = .ok (.if_icmp .ge 33, 3) := by decide +kernel
theorem dX6_fill_57 : decode cX6_fill 57 = .ok (.iload_n 2, 1) := by decide +kernel
theorem dX6_fill_58 : decode cX6_fill 58 = .ok (.iload_n 1, 1) := by decide +kernel
theorem dX6_fill_59 : decode cX6_fill 59 = .ok (.if_icmp .ge 28, 3) := by decide +kernel
theorem dX6_fill_62 : decode cX6_fill 62 = .ok (.aload_n 0, 1) := by decide +kernel
theorem dX6_fill_63 : decode cX6_fill 63 = .ok (.getfield 33, 3) := by decide +kernel
theorem dX6_fill_66 : decode cX6_fill 66 = .ok (.iload_n 3, 1) := by decide +kernel
theorem dX6_fill_67 : decode cX6_fill 67 = .ok (.baload, 1) := by decide +kernel
theorem dX6_fill_68 : decode cX6_fill 68 = .ok (.ifCond .ne 13, 3) := by decide +kernel
theorem dX6_fill_71 : decode cX6_fill 71 = .ok (.aload_n 0, 1) := by decide +kernel
theorem dX6_fill_72 : decode cX6_fill 72 = .ok (.getfield 33, 3) := by decide +kernel
theorem dX6_fill_75 : decode cX6_fill 75 = .ok (.iload_n 3, 1) := by decide +kernel
theorem dX6_fill_76 : decode cX6_fill 76 = .ok (.iconst 1, 1) := by decide +kernel
theorem dX6_fill_77 : decode cX6_fill 77 = .ok (.bastore, 1) := by decide +kernel
theorem dX6_fill_78 : decode cX6_fill 78 = .ok (.iinc 2 1, 3) := by decide +kernel
theorem dX6_fill_81 : decode cX6_fill 81 = .ok (.iinc 3 1, 3) := by decide +kernel
theorem dX6_fill_84 : decode cX6_fill 84 = .ok (.goto (-35), 3) := by decide +kernel
theorem dX6_fill_87 : decode cX6_fill 87 = .ok (.iload_n 2, 1) := by decide +kernel
theorem dX6_fill_88 : decode cX6_fill 88 = .ok (.ireturn, 1) := by decide +kernel
theorem dX6_count_0 : decode cX6_count 0 = .ok (.aload_n 0, 1) := by decide +kernel
theorem dX6_count_1 : decode cX6_count 1 = .ok (.aload_n 0, 1) := by decide +kernel
theorem dX6_count_2 : decode cX6_count 2 = .ok (.getfield 65, 3) := by decide +kernel
theorem dX6_count_5 : decode cX6_count 5 = .ok (.ifCond .ne 7, 3) := by decide +kernel
theorem dX6_count_8 : decode cX6_count 8 = .ok (.iconst 2, 1) := by decide +kernel
theorem dX6_count_9 : decode cX6_count 9 = .ok (.goto 18, 3) := by decide +kernel
theorem dX6_count_12 : decode cX6_count 12 = .ok (.iload_n 1, 1) := by decide +kernel
theorem dX6_count_13 : decode cX6_count 13 = .ok (.iconst 0, 1) := by decide +kernel
theorem dX6_count_14 : decode cX6_count 14 = .ok (.bipush 7, 2) := by decide +kernel
theorem dX6_count_16 : decode cX6_count 16 = .ok (.invokestatic 54, 3) := by decide +kernel
theorem dX6_count_19 : decode cX6_count 19 = .ok (.ifCond .eq 7, 3) := by decide +kernel
theorem dX6_count_22 : decode cX6_count 22 = .ok (.iconst 0, 1) := by decide +kernel
theorem dX6_count_23 : decode cX6_count 23 = .ok (.goto 4, 3) := by decide +kernel
theorem dX6_count_26 : decode cX6_count 26 = .ok (.iconst 1, 1) := by decide +kernel
theorem dX6_count_27 : decode cX6_count 27 = .ok (.putfield 51, 3) := by decide +kernel
theorem dX6_count_30 : decode cX6_count 30 = .ok (.aload_n 0, 1) := by decide +kernel
theorem dX6_count_31 : decode cX6_count 31 = .ok (.getfield 51, 3) := by decide +kernel
theorem dX6_count_34 : decode cX6_count 34 = .ok (.ifCond .le 5, 3) := by decide +kernel
theorem dX6_count_37 : decode cX6_count 37 = .ok (.iconst 0, 1) := by decide +kernel
theorem dX6_count_38 : decode cX6_count 38 = .ok (.ireturn, 1) := by decide +kernel
theorem dX6_count_39 : decode cX6_count 39 = .ok (.iload_n 1, 1) := by decide +kernel
theorem dX6_count_40 : decode cX6_count 40 = .ok (.tableswitch 79 0 6 #[44, 49, 54, 59, 64, 69, 74], 44) := by decide +kernel
theorem dX6_count_84 : decode cX6_count 84 = .ok (.aload_n 0, 1) := by decide +kernel
theorem dX6_count_85 : decode cX6_count 85 = .ok (.getfield 71, 3) := by decide +kernel
theorem dX6_count_88 : decode cX6_count 88 = .ok (.ireturn, 1) := by decide +kernel
theorem dX6_count_89 : decode cX6_count 89 = .ok (.aload_n 0, 1) := by decide +kernel
theorem dX6_count_90 : decode cX6_count 90 = .ok (.getfield 74, 3) := by decide +kernel
theorem dX6_count_93 : decode cX6_count 93 = .ok (.ireturn, 1) := by decide +kernel
theorem dX6_count_94 : decode cX6_count 94 = .ok (.aload_n 0, 1) := by decide +kernel
theorem dX6_count_95 : decode cX6_count 95 = .ok (.getfield 84, 3) := by decide +kernel
theorem dX6_count_98 : decode cX6_count 98 = .ok (.ireturn, 1) := by decide +kernel
theorem dX6_count_99 : decode cX6_count 99 = .ok (.aload_n 0, 1) := by decide +kernel
theorem dX6_count_100 : decode cX6_count 100 = .ok (.getfield 87, 3) := by decide +kernel
theorem dX6_count_103 : decode cX6_count 103 = .ok (.ireturn, 1) := by decide +kernel
theorem dX6_count_104 : decode cX6_count 104 = .ok (.aload_n 0, 1) := by decide +kernel
theorem dX6_count_105 : decode cX6_count 105 = .ok (.getfield 68, 3) := by decide +kernel
theorem dX6_count_108 : decode cX6_count 108 = .ok (.ireturn, 1) := by decide +kernel
theorem dX6_count_109 : decode cX6_count 109 = .ok (.aload_n 0, 1) := by decide +kernel
theorem dX6_count_110 : decode cX6_count 110 = .ok (.getfield 77, 3) := by decide +kernel
theorem dX6_count_113 : decode cX6_count 113 = .ok (.ireturn, 1) := by decide +kernel
theorem dX6_count_114 : decode cX6_count 114 = .ok (.aload_n 0, 1) := by decide +kernel
theorem dX6_count_115 : decode cX6_count 115 = .ok (.invokevirtual 161, 3) := by decide +kernel
theorem dX6_count_118 : decode cX6_count 118 = .ok (.ireturn, 1) := by decide +kernel
theorem dX6_count_119 : decode cX6_count 119 = .ok (.aload_n 0, 1) := by decide +kernel
theorem dX6_count_120 : decode cX6_count 120 = .ok (.getfield 90, 3) := by decide +kernel
theorem dX6_count_123 : decode cX6_count 123 = .ok (.ireturn, 1) := by decide +kernel
