theorem dJ_fill_0 : decode cJ_fill 0 = .ok (.iconst 0, 1) := by decide +kernel
theorem dJ_fill_1 : decode cJ_fill 1 = .ok (.istore_n 2, 1) := by decide +kernel
theorem dJ_fill_2 : decode cJ_fill 2 = .ok (.aload_n 0, 1) := by decide +kernel
theorem dJ_fill_3 : decode cJ_fill 3 = .ok (.arraylength, 1) := by decide +kernel
theorem dJ_fill_4 : decode cJ_fill 4 = .ok (.istore_n 3, 1) := by decide +kernel
theorem dJ_fill_5 : decode cJ_fill 5 = .ok (.iload_n 2, 1) := by decide +kernel
theorem dJ_fill_6 : decode cJ_fill 6 = .ok (.iload_n 3, 1) := by decide +kernel
theorem dJ_fill_7 : decode cJ_fill 7 = .ok (.if_icmp .ge 13, 3) := by decide +kernel
theorem dJ_fill_10 : decode cJ_fill 10 = .ok (.aload_n 0, 1) := by decide +kernel
theorem dJ_fill_11 : decode cJ_fill 11 = .ok (.iload_n 2, 1) := by decide +kernel
theorem dJ_fill_12 : decode cJ_fill 12 = .ok (.iload_n 1, 1) := by decide +kernel
theorem dJ_fill_13 : decode cJ_fill 13 = .ok (.bastore, 1) := by decide +kernel
theorem dJ_fill_14 : decode cJ_fill 14 = .ok (.iinc 2 1, 3) := by decide +kernel
theorem dJ_fill_17 : decode cJ_fill 17 = .ok (.goto (-12), 3) := by decide +kernel
theorem dJ_fill_20 : decode cJ_fill 20 = .ok (.return_, 1) := by decide +kernel
theorem dX5_sumStep_0 : decode cX5_sumStep 0 = .ok (.iload_n 0, 1) := by decide +kernel
theorem dX5_sumStep_1 : decode cX5_sumStep 1 = .ok (.iload_n 1, 1) := by decide +kernel
theorem dX5_sumStep_2 : decode cX5_sumStep 2 = .ok (.ixor, 1) := by decide +kernel
theorem dX5_sumStep_3 : decode cX5_sumStep 3 = .ok (.istore_n 2, 1) := by decide +kernel
theorem dX5_sumStep_4 : decode cX5_sumStep 4 = .ok (.iload_n 2, 1) := by decide +kernel
theorem dX5_sumStep_5 : decode cX5_sumStep 5 = .ok (.iconst 5, 1) := by decide +kernel
theorem dX5_sumStep_6 : decode cX5_sumStep 6 = .ok (.ishl, 1) := by decide +kernel
theorem dX5_sumStep_7 : decode cX5_sumStep 7 = .ok (.iload_n 2, 1) := by decide +kernel
theorem dX5_sumStep_8 : decode cX5_sumStep 8 = .ok (.bipush 27, 2) := by decide +kernel
theorem dX5_sumStep_10 : decode cX5_sumStep 10 = .ok (.iushr, 1) := by decide +kernel
theorem dX5_sumStep_11 : decode cX5_sumStep 11 = .ok (.ior, 1) := by decide +kernel
theorem dX5_sumStep_12 : decode cX5_sumStep 12 = .ok (.ldc_w 286, 3) := by decide +kernel
theorem dX5_sumStep_15 : decode cX5_sumStep 15 = .ok (.imul, 1) := by decide +kernel
theorem dX5_sumStep_16 : decode cX5_sumStep 16 = .ok (.ireturn, 1) := by decide +kernel
theorem dX5_sumOf_0 : decode cX5_sumOf 0 = .ok (.iconst 0, 1) := by decide +kernel
theorem dX5_sumOf_1 : decode cX5_sumOf 1 = .ok (.istore_n 2, 1) := by decide +kernel
theorem dX5_sumOf_2 : decode cX5_sumOf 2 = .ok (.iload_n 1, 1) := by decide +kernel
theorem dX5_sumOf_3 : decode cX5_sumOf 3 = .ok (.sipush 508, 3) := by decide +kernel
theorem dX5_sumOf_6 : decode cX5_sumOf 6 = .ok (.iadd, 1) := by decide +kernel
theorem dX5_sumOf_7 : decode cX5_sumOf 7 = .ok (.aload_n 0, 1) := by decide +kernel
theorem dX5_sumOf_8 : decode cX5_sumOf 8 = .ok (.arraylength, 1) := by decide +kernel
theorem dX5_sumOf_9 : decode cX5_sumOf 9 = .ok (.invokestatic 287, 3) := by decide +kernel
theorem dX5_sumOf_12 : decode cX5_sumOf 12 = .ok (.istore_n 3, 1) := by decide +kernel
theorem dX5_sumOf_13 : decode cX5_sumOf 13 = .ok (.iload_n 1, 1) := by decide +kernel
theorem dX5_sumOf_14 : decode cX5_sumOf 14 = .ok (.iconst 0, 1) := by decide +kernel
theorem dX5_sumOf_15 : decode cX5_sumOf 15 = .ok (.invokestatic 292, 3) := by decide +kernel
theorem dX5_sumOf_18 : decode cX5_sumOf 18 = .ok (.istore 4, 2) := by decide +kernel
theorem dX5_sumOf_20 : decode cX5_sumOf 20 = .ok (.iload 4, 2) := by decide +kernel
theorem dX5_sumOf_22 : decode cX5_sumOf 22 = .ok (.iload_n 3, 1) := by decide +kernel
theorem dX5_sumOf_23 : decode cX5_sumOf 23 = .ok (.if_icmp .ge 22, 3) := by decide +kernel
theorem dX5_sumOf_26 : decode cX5_sumOf 26 = .ok (.iload_n 2, 1) := by decide +kernel
theorem dX5_sumOf_27 : decode cX5_sumOf 27 = .ok (.aload_n 0, 1) := by decide +kernel
theorem dX5_sumOf_28 : decode cX5_sumOf 28 = .ok (.iload 4, 2) := by decide +kernel
theorem dX5_sumOf_30 : decode cX5_sumOf 30 = .ok (.baload, 1) := by decide +kernel
theorem dX5_sumOf_31 : decode cX5_sumOf 31 = .ok (.sipush 255, 3) := by decide +kernel
theorem dX5_sumOf_34 : decode cX5_sumOf 34 = .ok (.iand, 1) := by decide +kernel
theorem dX5_sumOf_35 : decode cX5_sumOf 35 = .ok (.invokestatic 283, 3) := by decide +kernel
theorem dX5_sumOf_38 : decode cX5_sumOf 38 = .ok (.istore_n 2, 1) := by decide +kernel
theorem dX5_sumOf_39 : decode cX5_sumOf 39 = .ok (.iinc 4 1, 3) := by decide +kernel
theorem dX5_sumOf_42 : decode cX5_sumOf 42 = .ok (.goto (-22), 3) := by decide +kernel
theorem dX5_sumOf_45 : decode cX5_sumOf 45 = .ok (.iload_n 2, 1) := by decide +kernel
theorem dX5_sumOf_46 : decode cX5_sumOf 46 = .ok (.ireturn, 1) := by decide +kernel
theorem dX0_firstCell_0 : decode cX0_firstCell 0 = .ok (.iload_n 1, 1) := by decide +kernel
theorem dX0_firstCell_1 : decode cX0_firstCell 1 = .ok (.bipush 32, 2) := by decide +kernel
theorem dX0_firstCell_3 : decode cX0_firstCell 3 = .ok (.imul, 1) := by decide +kernel
theorem dX0_firstCell_4 : decode cX0_firstCell 4 = .ok (.iload_n 2, 1) := by decide +kernel
theorem dX0_firstCell_5 : decode cX0_firstCell 5 = .ok (.iadd, 1) := by decide +kernel
theorem dX0_firstCell_6 : decode cX0_firstCell 6 = .ok (.sipush 512, 3) := by decide +kernel
theorem dX0_firstCell_9 : decode cX0_firstCell 9 = .ok (.imul, 1) := by decide +kernel
theorem dX0_firstCell_10 : decode cX0_firstCell 10 = .ok (.ireturn, 1) := by decide +kernel
theorem dX0_byteOf_0 : decode cX0_byteOf 0 = .ok (.iload_n 1, 1) := by decide +kernel
theorem dX0_byteOf_1 : decode cX0_byteOf 1 = .ok (.ifCond .lt 25, 3) := by decide +kernel
theorem dX0_byteOf_4 : decode cX0_byteOf 4 = .ok (.iload_n 1, 1) := by decide +kernel
theorem dX0_byteOf_5 : decode cX0_byteOf 5 = .ok (.aload_n 0, 1) := by decide +kernel
theorem dX0_byteOf_6 : decode cX0_byteOf 6 = .ok (.getfield 10, 3) := by decide +kernel
theorem dX0_byteOf_9 : decode cX0_byteOf 9 = .ok (.arraylength, 1) := by decide +kernel
theorem dX0_byteOf_10 : decode cX0_byteOf 10 = .ok (.if_icmp .ge 16, 3) := by decide +kernel
theorem dX0_byteOf_13 : decode cX0_byteOf 13 = .ok (.aload_n 0, 1) := by decide +kernel
theorem dX0_byteOf_14 : decode cX0_byteOf 14 = .ok (.getfield 10, 3) := by decide +kernel
theorem dX0_byteOf_17 : decode cX0_byteOf 17 = .ok (.iload_n 1, 1) := by decide +kernel
theorem dX0_byteOf_18 : decode cX0_byteOf 18 = .ok (.baload, 1) := by decide +kernel
theorem dX0_byteOf_19 : decode cX0_byteOf 19 = .ok (.sipush 255, 3) := by decide +kernel
theorem dX0_byteOf_22 : decode cX0_byteOf 22 = .ok (.iand, 1) := by decide +kernel
theorem dX0_byteOf_23 : decode cX0_byteOf 23 = .ok (.goto 4, 3) := by decide +kernel
theorem dX0_byteOf_26 : decode cX0_byteOf 26 = .ok (.iconst 0, 1) := by decide +kernel
theorem dX0_byteOf_27 : decode cX0_byteOf 27 = .ok (.ireturn, 1) := by decide +kernel
theorem dX0_intOf_0 : decode cX0_intOf 0 = .ok (.iconst 0, 1) := by decide +kernel
theorem dX0_intOf_1 : decode cX0_intOf 1 = .ok (.istore_n 2, 1) := by decide +kernel
theorem dX0_intOf_2 : decode cX0_intOf 2 = .ok (.iconst 0, 1) := by decide +kernel
theorem dX0_intOf_3 : decode cX0_intOf 3 = .ok (.istore_n 3, 1) := by decide +kernel
theorem dX0_intOf_4 : decode cX0_intOf 4 = .ok (.iload_n 3, 1) := by decide +kernel
theorem dX0_intOf_5 : decode cX0_intOf 5 = .ok (.iconst 4, 1) := by decide +kernel
theorem dX0_intOf_6 : decode cX0_intOf 6 = .ok (.if_icmp .ge 22, 3) := by decide +kernel
theorem dX0_intOf_9 : decode cX0_intOf 9 = .ok (.iload_n 2, 1) := by decide +kernel
theorem dX0_intOf_10 : decode cX0_intOf 10 = .ok (.bipush 8, 2) := by decide +kernel
theorem dX0_intOf_12 : decode cX0_intOf 12 = .ok (.ishl, 1) := by decide +kernel
theorem dX0_intOf_13 : decode cX0_intOf 13 = .ok (.aload_n 0, 1) := by decide +kernel
theorem dX0_intOf_14 : decode cX0_intOf 14 = .ok (.iload_n 1, 1) := by decide +kernel
theorem dX0_intOf_15 : decode cX0_intOf 15 = .ok (.iload_n 3, 1) := by decide +kernel
theorem dX0_intOf_16 : decode cX0_intOf 16 = .ok (.iadd, 1) := by decide +kernel
theorem dX0_intOf_17 : decode cX0_intOf 17 = .ok (.invokevirtual 52, 3) := by decide +kernel
theorem dX0_intOf_20 : decode cX0_intOf 20 = .ok (.ior, 1) := by decide +kernel
theorem dX0_intOf_21 : decode cX0_intOf 21 = .ok (.istore_n 2, 1) := by decide +kernel
theorem dX0_intOf_22 : decode cX0_intOf 22 = .ok (.iinc 3 1, 3) := by decide +kernel
theorem dX0_intOf_25 : decode cX0_intOf 25 = .ok (.goto (-21), 3) := by decide +kernel
theorem dX0_intOf_28 : decode cX0_intOf 28 = .ok (.iload_n 2, 1) := by decide +kernel
theorem dX0_intOf_29 : decode cX0_intOf 29 = .ok (.ireturn, 1) := by decide +kernel
theorem dX0_dataBytesOf_0 : decode cX0_dataBytesOf 0 = .ok (.aload_n 0, 1) := by decide +kernel
theorem dX0_dataBytesOf_1 : decode cX0_dataBytesOf 1 = .ok (.iload_n 1, 1) := by decide +kernel
theorem dX0_dataBytesOf_2 : decode cX0_dataBytesOf 2 = .ok (.iconst 4, 1) := by decide +kernel
theorem dX0_dataBytesOf_3 : decode cX0_dataBytesOf 3 = .ok (.iadd, 1) := by decide +kernel
theorem dX0_dataBytesOf_4 : decode cX0_dataBytesOf 4 = .ok (.invokevirtual 52, 3) := by decide +kernel
theorem dX0_dataBytesOf_7 : decode cX0_dataBytesOf 7 = .ok (.bipush 8, 2) := by decide +kernel
theorem dX0_dataBytesOf_9 : decode cX0_dataBytesOf 9 = .ok (.ishl, 1) := by decide +kernel
theorem dX0_dataBytesOf_10 : decode cX0_dataBytesOf 10 = .ok (.aload_n 0, 1) := by decide +kernel
theorem dX0_dataBytesOf_11 : decode cX0_dataBytesOf 11 = .ok (.iload_n 1, 1) := by decide +kernel
theorem dX0_dataBytesOf_12 : decode cX0_dataBytesOf 12 = .ok (.iconst 4, 1) := by decide +kernel
theorem dX0_dataBytesOf_13 : decode cX0_dataBytesOf 13 = .ok (.iadd, 1) := by decide +kernel
theorem dX0_dataBytesOf_14 : decode cX0_dataBytesOf 14 = .ok (.iconst 1, 1) := by decide +kernel
theorem dX0_dataBytesOf_15 : decode cX0_dataBytesOf 15 = .ok (.iadd, 1) := by decide +kernel
theorem dX0_dataBytesOf_16 : decode cX0_dataBytesOf 16 = .ok (.invokevirtual 52, 3) := by decide +kernel
theorem dX0_dataBytesOf_19 : decode cX0_dataBytesOf 19 = .ok (.ior, 1) := by decide +kernel
theorem dX0_dataBytesOf_20 : decode cX0_dataBytesOf 20 = .ok (.ireturn, 1) := by decide +kernel
theorem dX0_hasWholeRows_0 : decode cX0_hasWholeRows 0 = .ok (.aload_n 0, 1) := by decide +kernel
theorem dX0_hasWholeRows_1 : decode cX0_hasWholeRows 1 = .ok (.iload_n 1, 1) := by decide +kernel
theorem dX0_hasWholeRows_2 : decode cX0_hasWholeRows 2 = .ok (.invokevirtual 61, 3) := by decide +kernel
theorem dX0_hasWholeRows_5 : decode cX0_hasWholeRows 5 = .ok (.istore_n 2, 1) := by decide +kernel
theorem dX0_hasWholeRows_6 : decode cX0_hasWholeRows 6 = .ok (.iload_n 2, 1) := by decide +kernel
theorem dX0_hasWholeRows_7 : decode cX0_hasWholeRows 7 = .ok (.ifCond .eq 10, 3) := by decide +kernel
theorem dX0_hasWholeRows_10 : decode cX0_hasWholeRows 10 = .ok (.iload_n 2, 1) := by decide +kernel
theorem dX0_hasWholeRows_11 : decode cX0_hasWholeRows 11 = .ok (.sipush 502, 3) := by decide +kernel
theorem dX0_hasWholeRows_14 : decode cX0_hasWholeRows 14 = .ok (.if_icmp .le 5, 3) := by decide +kernel
theorem dX0_hasWholeRows_17 : decode cX0_hasWholeRows 17 = .ok (.iconst 0, 1) := by decide +kernel
theorem dX0_hasWholeRows_18 : decode cX0_hasWholeRows 18 = .ok (.ireturn, 1) := by decide +kernel
theorem dX0_hasWholeRows_19 : decode cX0_hasWholeRows 19 = .ok (.iload_n 1, 1) := by decide +kernel
theorem dX0_hasWholeRows_20 : decode cX0_hasWholeRows 20 = .ok (.bipush 6, 2) := by decide +kernel
theorem dX0_hasWholeRows_22 : decode cX0_hasWholeRows 22 = .ok (.iadd, 1) := by decide +kernel
theorem dX0_hasWholeRows_23 : decode cX0_hasWholeRows 23 = .ok (.iload_n 2, 1) := by decide +kernel
theorem dX0_hasWholeRows_24 : decode cX0_hasWholeRows 24 = .ok (.iadd, 1) := by decide +kernel
theorem dX0_hasWholeRows_25 : decode cX0_hasWholeRows 25 = .ok (.istore_n 3, 1) := by decide +kernel
theorem dX0_hasWholeRows_26 : decode cX0_hasWholeRows 26 = .ok (.iload_n 1, 1) := by decide +kernel
theorem dX0_hasWholeRows_27 : decode cX0_hasWholeRows 27 = .ok (.bipush 6, 2) := by decide +kernel
theorem dX0_hasWholeRows_29 : decode cX0_hasWholeRows 29 = .ok (.iadd, 1) := by decide +kernel
theorem dX0_hasWholeRows_30 : decode cX0_hasWholeRows 30 = .ok (.istore 4, 2) := by decide +kernel
theorem dX0_hasWholeRows_32 : decode cX0_hasWholeRows 32 = .ok (.iconst 0, 1) := by decide +kernel
theorem dX0_hasWholeRows_33 : decode cX0_hasWholeRows 33 = .ok (.istore 5, 2) := by decide +kernel
theorem dX0_hasWholeRows_35 : decode cX0_hasWholeRows 35 = .ok (.iload 5, 2) := by decide +kernel
theorem dX0_hasWholeRows_37 : decode cX0_hasWholeRows 37 = .ok (.sipush 167, 3) := by decide +kernel
theorem dX0_hasWholeRows_40 : decode cX0_hasWholeRows 40 = .ok (.if_icmp .ge 59, 3) := by decide +kernel
theorem dX0_hasWholeRows_43 : decode cX0_hasWholeRows 43 = .ok (.iload 4, 2) := by decide +kernel
theorem dX0_hasWholeRows_45 : decode cX0_hasWholeRows 45 = .ok (.iload_n 3, 1) := by decide +kernel
theorem dX0_hasWholeRows_46 : decode cX0_hasWholeRows 46 = .ok (.if_icmp .ge 53, 3) := by decide +kernel
theorem dX0_hasWholeRows_49 : decode cX0_hasWholeRows 49 = .ok (.aload_n 0, 1) := by decide +kernel
theorem dX0_hasWholeRows_50 : decode cX0_hasWholeRows 50 = .ok (.iload 4, 2) := by decide +kernel
theorem dX0_hasWholeRows_52 : decode cX0_hasWholeRows 52 = .ok (.iconst 1, 1) := by decide +kernel
theorem dX0_hasWholeRows_53 : decode cX0_hasWholeRows 53 = .ok (.iadd, 1) := by decide +kernel
theorem dX0_hasWholeRows_54 : decode cX0_hasWholeRows 54 = .ok (.invokevirtual 52, 3) := by decide +kernel
theorem dX0_hasWholeRows_57 : decode cX0_hasWholeRows 57 = .ok (.istore 6, 2) := by decide +kernel
theorem dX0_hasWholeRows_59 : decode cX0_hasWholeRows 59 = .ok (.aload_n 0, 1) := by decide +kernel
theorem dX0_hasWholeRows_60 : decode cX0_hasWholeRows 60 = .ok (.iload 4, 2) := by decide +kernel
theorem dX0_hasWholeRows_62 : decode cX0_hasWholeRows 62 = .ok (.invokevirtual 52, 3) := by decide +kernel
theorem dX0_hasWholeRows_65 : decode cX0_hasWholeRows 65 = .ok (.bipush 8, 2) := by decide +kernel
theorem dX0_hasWholeRows_67 : decode cX0_hasWholeRows 67 = .ok (.if_icmp .ge 15, 3) := by decide +kernel
theorem dX0_hasWholeRows_70 : decode cX0_hasWholeRows 70 = .ok (.iload 6, 2) := by decide +kernel
theorem dX0_hasWholeRows_72 : decode cX0_hasWholeRows 72 = .ok (.ifCond .eq 10, 3) := by decide +kernel
theorem dX0_hasWholeRows_75 : decode cX0_hasWholeRows 75 = .ok (.iload 6, 2) := by decide +kernel
theorem dX0_hasWholeRows_77 : decode cX0_hasWholeRows 77 = .ok (.bipush 8, 2) := by decide +kernel
theorem dX0_hasWholeRows_79 : decode cX0_hasWholeRows 79 = .ok (.if_icmp .le 5, 3) := by decide +kernel
theorem dX0_hasWholeRows_82 : decode cX0_hasWholeRows 82 = .ok (.iconst 0, 1) := by decide +kernel
theorem dX0_hasWholeRows_83 : decode cX0_hasWholeRows 83 = .ok (.ireturn, 1) := by decide +kernel
theorem dX0_hasWholeRows_84 : decode cX0_hasWholeRows 84 = .ok (.iload 4, 2) := by decide +kernel
theorem dX0_hasWholeRows_86 : decode cX0_hasWholeRows 86 = .ok (.iconst 2, 1) := by decide +kernel
theorem dX0_hasWholeRows_87 : decode cX0_hasWholeRows 87 = .ok (.iload 6, 2) := by decide +kernel
theorem dX0_hasWholeRows_89 : decode cX0_hasWholeRows 89 = .ok (.iadd, 1) := by decide +kernel
theorem dX0_hasWholeRows_90 : decode cX0_hasWholeRows 90 = .ok (.iadd, 1) := by decide +kernel
theorem dX0_hasWholeRows_91 : decode cX0_hasWholeRows 91 = .ok (.istore 4, 2) := by decide +kernel
theorem dX0_hasWholeRows_93 : decode cX0_hasWholeRows 93 = .ok (.iinc 5 1, 3) := by decide +kernel
theorem dX0_hasWholeRows_96 : decode cX0_hasWholeRows 96 = .ok (.goto (-61), 3) := by decide +kernel
theorem dX0_hasWholeRows_99 : decode cX0_hasWholeRows 99 = .ok (.iload 4, 2) := by decide +kernel
theorem dX0_hasWholeRows_101 : decode cX0_hasWholeRows 101 = .ok (.iload_n 3, 1) := by decide +kernel
theorem dX0_hasWholeRows_102 : decode cX0_hasWholeRows 102 = .ok (.if_icmp .ne 7, 3) := by decide +kernel
theorem dX0_hasWholeRows_105 : decode cX0_hasWholeRows 105 = .ok (.iconst 1, 1) := by decide +kernel
theorem dX0_hasWholeRows_106 : decode cX0_hasWholeRows 106 = .ok (.goto 4, 3) := by decide +kernel
theorem dX0_hasWholeRows_109 : decode cX0_hasWholeRows 109 = .ok (.iconst 0, 1) := by decide +kernel
theorem dX0_hasWholeRows_110 : decode cX0_hasWholeRows 110 = .ok (.ireturn, 1) := by decide +kernel
theorem dX0_hasItsSum_0 : decode cX0_hasItsSum 0 = .ok (.aload_n 0, 1) := by decide +kernel
theorem dX0_hasItsSum_1 : decode cX0_hasItsSum 1 = .ok (.getfield 10, 3) := by decide +kernel
theorem dX0_hasItsSum_4 : decode cX0_hasItsSum 4 = .ok (.iload_n 1, 1) := by decide +kernel
theorem dX0_hasItsSum_5 : decode cX0_hasItsSum 5 = .ok (.invokestatic 79, 3) := by decide +kernel
theorem dX0_hasItsSum_8 : decode cX0_hasItsSum 8 = .ok (.aload_n 0, 1) := by decide +kernel
theorem dX0_hasItsSum_9 : decode cX0_hasItsSum 9 = .ok (.iload_n 1, 1) := by decide +kernel
theorem dX0_hasItsSum_10 : decode cX0_hasItsSum 10 = .ok (.sipush 508, 3) := by decide +kernel
theorem dX0_hasItsSum_13 : decode cX0_hasItsSum 13 = .ok (.iadd, 1) := by decide +kernel
theorem dX0_hasItsSum_14 : decode cX0_hasItsSum 14 = .ok (.invokevirtual 56, 3) := by decide +kernel
theorem dX0_hasItsSum_17 : decode cX0_hasItsSum 17 = .ok (.if_icmp .ne 7, 3) := by decide +kernel
theorem dX0_hasItsSum_20 : decode cX0_hasItsSum 20 = .ok (.iconst 1, 1) := by decide +kernel
theorem dX0_hasItsSum_21 : decode cX0_hasItsSum 21 = .ok (.goto 4, 3) := by decide +kernel
theorem dX0_hasItsSum_24 : decode cX0_hasItsSum 24 = .ok (.iconst 0, 1) := by decide +kernel
theorem dX0_hasItsSum_25 : decode cX0_hasItsSum 25 = .ok (.ireturn, 1) := by decide +kernel
theorem dX0_rowSectors_0 : decode cX0_rowSectors 0 = .ok (.aload_n 0, 1) := by decide +kernel
theorem dX0_rowSectors_1 : decode cX0_rowSectors 1 = .ok (.getfield 22, 3) := by decide +kernel
theorem dX0_rowSectors_4 : decode cX0_rowSectors 4 = .ok (.iconst 2, 1) := by decide +kernel
theorem dX0_rowSectors_5 : decode cX0_rowSectors 5 = .ok (.isub, 1) := by decide +kernel
theorem dX0_rowSectors_6 : decode cX0_rowSectors 6 = .ok (.ireturn, 1) := by decide +kernel
theorem dX0_isRight_0 : decode cX0_isRight 0 = .ok (.aload_n 0, 1) := by decide +kernel
theorem dX0_isRight_1 : decode cX0_isRight 1 = .ok (.iload_n 1, 1) := by decide +kernel
theorem dX0_isRight_2 : decode cX0_isRight 2 = .ok (.iload_n 2, 1) := by decide +kernel
theorem dX0_isRight_3 : decode cX0_isRight 3 = .ok (.invokevirtual 36, 3) := by decide +kernel
theorem dX0_isRight_6 : decode cX0_isRight 6 = .ok (.istore_n 3, 1) := by decide +kernel
theorem dX0_isRight_7 : decode cX0_isRight 7 = .ok (.aload_n 0, 1) := by decide +kernel
theorem dX0_isRight_8 : decode cX0_isRight 8 = .ok (.iload_n 3, 1) := by decide +kernel
theorem dX0_isRight_9 : decode cX0_isRight 9 = .ok (.invokevirtual 56, 3) := by decide +kernel
theorem dX0_isRight_12 : decode cX0_isRight 12 = .ok (.istore 4, 2) := by decide +kernel
theorem dX0_isRight_14 : decode cX0_isRight 14 = .ok (.iload_n 2, 1) := by decide +kernel
theorem dX0_isRight_15 : decode cX0_isRight 15 = .ok (.aload_n 0, 1) := by decide +kernel
theorem dX0_isRight_16 : decode cX0_isRight 16 = .ok (.invokevirtual 68, 3) := by decide +kernel
theorem dX0_isRight_19 : decode cX0_isRight 19 = .ok (.if_icmp .ge 33, 3) := by decide +kernel
theorem dX0_isRight_22 : decode cX0_isRight 22 = .ok (.iload 4, 2) := by decide +kernel
theorem dX0_isRight_24 : decode cX0_isRight 24 = .ok (.iload_n 2, 1) := by decide +kernel
theorem dX0_isRight_25 : decode cX0_isRight 25 = .ok (.iconst 1, 1) := by decide +kernel
theorem dX0_isRight_26 : decode cX0_isRight 26 = .ok (.iadd, 1) := by decide +kernel
theorem dX0_isRight_27 : decode cX0_isRight 27 = .ok (.if_icmp .ne 23, 3) := by decide +kernel
theorem dX0_isRight_30 : decode cX0_isRight 30 = .ok (.aload_n 0, 1) := by decide +kernel
theorem dX0_isRight_31 : decode cX0_isRight 31 = .ok (.iload_n 3, 1) := by decide +kernel
theorem dX0_isRight_32 : decode cX0_isRight 32 = .ok (.invokevirtual 72, 3) := by decide +kernel
theorem dX0_isRight_35 : decode cX0_isRight 35 = .ok (.ifCond .eq 15, 3) := by decide +kernel
theorem dX0_isRight_38 : decode cX0_isRight 38 = .ok (.aload_n 0, 1) := by decide +kernel
theorem dX0_isRight_39 : decode cX0_isRight 39 = .ok (.iload_n 3, 1) := by decide +kernel
theorem dX0_isRight_40 : decode cX0_isRight 40 = .ok (.invokevirtual 76, 3) := by decide +kernel
theorem dX0_isRight_43 : decode cX0_isRight 43 = .ok (.ifCond .eq 7, 3) := by decide +kernel
theorem dX0_isRight_46 : decode cX0_isRight 46 = .ok (.iconst 1, 1) := by decide +kernel
theorem dX0_isRight_47 : decode cX0_isRight 47 = .ok (.goto 4, 3) := by decide +kernel
theorem dX0_isRight_50 : decode cX0_isRight 50 = .ok (.iconst 0, 1) := by decide +kernel
theorem dX0_isRight_51 : decode cX0_isRight 51 = .ok (.ireturn, 1) := by decide +kernel
theorem dX0_isRight_52 : decode cX0_isRight 52 = .ok (.iload 4, 2) := by decide +kernel
theorem dX0_isRight_54 : decode cX0_isRight 54 = .ok (.ifCond .eq 25, 3) := by decide +kernel
theorem dX0_isRight_57 : decode cX0_isRight 57 = .ok (.aload_n 0, 1) := by decide +kernel
theorem dX0_isRight_58 : decode cX0_isRight 58 = .ok (.iload_n 3, 1) := by decide +kernel
theorem dX0_isRight_59 : decode cX0_isRight 59 = .ok (.invokevirtual 61, 3) := by decide +kernel
theorem dX0_isRight_62 : decode cX0_isRight 62 = .ok (.bipush 8, 2) := by decide +kernel
theorem dX0_isRight_64 : decode cX0_isRight 64 = .ok (.if_icmp .ne 15, 3) := by decide +kernel
theorem dX0_isRight_67 : decode cX0_isRight 67 = .ok (.aload_n 0, 1) := by decide +kernel
theorem dX0_isRight_68 : decode cX0_isRight 68 = .ok (.iload_n 3, 1) := by decide +kernel
theorem dX0_isRight_69 : decode cX0_isRight 69 = .ok (.invokevirtual 76, 3) := by decide +kernel
theorem dX0_isRight_72 : decode cX0_isRight 72 = .ok (.ifCond .eq 7, 3) := by decide +kernel
theorem dX0_isRight_75 : decode cX0_isRight 75 = .ok (.iconst 1, 1) := by decide +kernel
theorem dX0_isRight_76 : decode cX0_isRight 76 = .ok (.goto 4, 3) := by decide +kernel
theorem dX0_isRight_79 : decode cX0_isRight 79 = .ok (.iconst 0, 1) := by decide +kernel
theorem dX0_isRight_80 : decode cX0_isRight 80 = .ok (.ireturn, 1) := by decide +kernel
theorem dX0_firstRightCopy_0 : decode cX0_firstRightCopy 0 = .ok (.iconst 0, 1) := by decide +kernel
theorem dX0_firstRightCopy_1 : decode cX0_firstRightCopy 1 = .ok (.istore_n 2, 1) := by decide +kernel
theorem dX0_firstRightCopy_2 : decode cX0_firstRightCopy 2 = .ok (.iload_n 2, 1) := by decide +kernel
theorem dX0_firstRightCopy_3 : decode cX0_firstRightCopy 3 = .ok (.iconst 2, 1) := by decide +kernel
theorem dX0_firstRightCopy_4 : decode cX0_firstRightCopy 4 = .ok (.if_icmp .ge 20, 3) := by decide +kernel
theorem dX0_firstRightCopy_7 : decode cX0_firstRightCopy 7 = .ok (.aload_n 0, 1) := by decide +kernel
theorem dX0_firstRightCopy_8 : decode cX0_firstRightCopy 8 = .ok (.iload_n 2, 1) := by decide +kernel
theorem dX0_firstRightCopy_9 : decode cX0_firstRightCopy 9 = .ok (.iload_n 1, 1) := by decide +kernel
theorem dX0_firstRightCopy_10 : decode cX0_firstRightCopy 10 = .ok (.invokevirtual 64, 3) := by decide +kernel
theorem dX0_firstRightCopy_13 : decode cX0_firstRightCopy 13 = .ok (.ifCond .eq 5, 3) := by decide +kernel
theorem dX0_firstRightCopy_16 : decode cX0_firstRightCopy 16 = .ok (.iload_n 2, 1) := by decide +kernel
theorem dX0_firstRightCopy_17 : decode cX0_firstRightCopy 17 = .ok (.ireturn, 1) := by decide +kernel
theorem dX0_firstRightCopy_18 : decode cX0_firstRightCopy 18 = .ok (.iinc 2 1, 3) := by decide +kernel
theorem dX0_firstRightCopy_21 : decode cX0_firstRightCopy 21 = .ok (.goto (-19), 3) := by decide +kernel
theorem dX0_firstRightCopy_24 : decode cX0_firstRightCopy 24 = .ok (.iconst (-1), 1) := by decide +kernel
theorem dX0_firstRightCopy_25 : decode cX0_firstRightCopy 25 = .ok (.ireturn, 1) := by decide +kernel
theorem dX0_byteAt_0 : decode cX0_byteAt 0 = .ok (.aload_n 0, 1) := by decide +kernel
theorem dX0_byteAt_1 : decode cX0_byteAt 1 = .ok (.aload_n 0, 1) := by decide +kernel
theorem dX0_byteAt_2 : decode cX0_byteAt 2 = .ok (.iload_n 1, 1) := by decide +kernel
theorem dX0_byteAt_3 : decode cX0_byteAt 3 = .ok (.iload_n 2, 1) := by decide +kernel
theorem dX0_byteAt_4 : decode cX0_byteAt 4 = .ok (.invokevirtual 36, 3) := by decide +kernel
theorem dX0_byteAt_7 : decode cX0_byteAt 7 = .ok (.iload_n 3, 1) := by decide +kernel
theorem dX0_byteAt_8 : decode cX0_byteAt 8 = .ok (.iadd, 1) := by decide +kernel
theorem dX0_byteAt_9 : decode cX0_byteAt 9 = .ok (.invokevirtual 52, 3) := by decide +kernel
theorem dX0_byteAt_12 : decode cX0_byteAt 12 = .ok (.ireturn, 1) := by decide +kernel
theorem dX0_numberAt_0 : decode cX0_numberAt 0 = .ok (.aload_n 0, 1) := by decide +kernel
theorem dX0_numberAt_1 : decode cX0_numberAt 1 = .ok (.aload_n 0, 1) := by decide +kernel
theorem dX0_numberAt_2 : decode cX0_numberAt 2 = .ok (.iload_n 1, 1) := by decide +kernel
theorem dX0_numberAt_3 : decode cX0_numberAt 3 = .ok (.iload_n 2, 1) := by decide +kernel
theorem dX0_numberAt_4 : decode cX0_numberAt 4 = .ok (.invokevirtual 36, 3) := by decide +kernel
theorem dX0_numberAt_7 : decode cX0_numberAt 7 = .ok (.invokevirtual 56, 3) := by decide +kernel
theorem dX0_numberAt_10 : decode cX0_numberAt 10 = .ok (.ireturn, 1) := by decide +kernel
theorem dX0_stateAt_0 : decode cX0_stateAt 0 = .ok (.aload_n 0, 1) := by decide +kernel
theorem dX0_stateAt_1 : decode cX0_stateAt 1 = .ok (.iload_n 1, 1) := by decide +kernel
theorem dX0_stateAt_2 : decode cX0_stateAt 2 = .ok (.iload_n 2, 1) := by decide +kernel
theorem dX0_stateAt_3 : decode cX0_stateAt 3 = .ok (.invokevirtual 36, 3) := by decide +kernel
theorem dX0_stateAt_6 : decode cX0_stateAt 6 = .ok (.bipush 6, 2) := by decide +kernel
theorem dX0_stateAt_8 : decode cX0_stateAt 8 = .ok (.iadd, 1) := by decide +kernel
theorem dX0_stateAt_9 : decode cX0_stateAt 9 = .ok (.istore_n 3, 1) := by decide +kernel
theorem dX0_stateAt_10 : decode cX0_stateAt 10 = .ok (.aload_n 0, 1) := by decide +kernel
theorem dX0_stateAt_11 : decode cX0_stateAt 11 = .ok (.iload_n 3, 1) := by decide +kernel
theorem dX0_stateAt_12 : decode cX0_stateAt 12 = .ok (.invokevirtual 56, 3) := by decide +kernel
theorem dX0_stateAt_15 : decode cX0_stateAt 15 = .ok (.i2l, 1) := by decide +kernel
theorem dX0_stateAt_16 : decode cX0_stateAt 16 = .ok (.lstore 4, 2) := by decide +kernel
theorem dX0_stateAt_18 : decode cX0_stateAt 18 = .ok (.aload_n 0, 1) := by decide +kernel
theorem dX0_stateAt_19 : decode cX0_stateAt 19 = .ok (.iload_n 3, 1) := by decide +kernel
theorem dX0_stateAt_20 : decode cX0_stateAt 20 = .ok (.iconst 4, 1) := by decide +kernel
theorem dX0_stateAt_21 : decode cX0_stateAt 21 = .ok (.iadd, 1) := by decide +kernel
theorem dX0_stateAt_22 : decode cX0_stateAt 22 = .ok (.invokevirtual 56, 3) := by decide +kernel
theorem dX0_stateAt_25 : decode cX0_stateAt 25 = .ok (.i2l, 1) := by decide +kernel
theorem dX0_stateAt_26 : decode cX0_stateAt 26 = .ok (.lstore 6, 2) := by decide +kernel
theorem dX0_stateAt_28 : decode cX0_stateAt 28 = .ok (.lload 4, 2) := by decide +kernel
theorem dX0_stateAt_30 : decode cX0_stateAt 30 = .ok (.bipush 32, 2) := by decide +kernel
theorem dX0_stateAt_32 : decode cX0_stateAt 32 = .ok (.lshl, 1) := by decide +kernel
theorem dX0_stateAt_33 : decode cX0_stateAt 33 = .ok (.lload 6, 2) := by decide +kernel
theorem dX0_stateAt_35 : decode cX0_stateAt 35 = .ok (.ldc2_w 59, 3) := by decide +kernel
theorem dX0_stateAt_38 : decode cX0_stateAt 38 = .ok (.land, 1) := by decide +kernel
theorem dX0_stateAt_39 : decode cX0_stateAt 39 = .ok (.lor, 1) := by decide +kernel
theorem dX0_stateAt_40 : decode cX0_stateAt 40 = .ok (.lreturn, 1) := by decide +kernel
theorem dX0_dataBytesAt_0 : decode cX0_dataBytesAt 0 = .ok (.aload_n 0, 1) := by decide +kernel
theorem dX0_dataBytesAt_1 : decode cX0_dataBytesAt 1 = .ok (.aload_n 0, 1) := by decide +kernel
theorem dX0_dataBytesAt_2 : decode cX0_dataBytesAt 2 = .ok (.iload_n 1, 1) := by decide +kernel
theorem dX0_dataBytesAt_3 : decode cX0_dataBytesAt 3 = .ok (.iload_n 2, 1) := by decide +kernel
theorem dX0_dataBytesAt_4 : decode cX0_dataBytesAt 4 = .ok (.invokevirtual 36, 3) := by decide +kernel
theorem dX0_dataBytesAt_7 : decode cX0_dataBytesAt 7 = .ok (.invokevirtual 61, 3) := by decide +kernel
theorem dX0_dataBytesAt_10 : decode cX0_dataBytesAt 10 = .ok (.ireturn, 1) := by decide +kernel
theorem dX0_make_0 : decode cX0_make 0 = .ok (.aload_n 0, 1) := by decide +kernel
theorem dX0_make_1 : decode cX0_make 1 = .ok (.getfield 10, 3) := by decide +kernel
theorem dX0_make_4 : decode cX0_make 4 = .ok (.iconst 0, 1) := by decide +kernel
theorem dX0_make_5 : decode cX0_make 5 = .ok (.invokestatic 16, 3) := by decide +kernel
theorem dX0_make_8 : decode cX0_make 8 = .ok (.aload_n 0, 1) := by decide +kernel
theorem dX0_make_9 : decode cX0_make 9 = .ok (.iload_n 1, 1) := by decide +kernel
theorem dX0_make_10 : decode cX0_make 10 = .ok (.putfield 22, 3) := by decide +kernel
theorem dX0_make_13 : decode cX0_make 13 = .ok (.aload_n 0, 1) := by decide +kernel
theorem dX0_make_14 : decode cX0_make 14 = .ok (.iconst 0, 1) := by decide +kernel
theorem dX0_make_15 : decode cX0_make 15 = .ok (.putfield 26, 3) := by decide +kernel
theorem dX0_make_18 : decode cX0_make 18 = .ok (.return_, 1) := by decide +kernel
theorem dX0_isMade_0 : decode cX0_isMade 0 = .ok (.aload_n 0, 1) := by decide +kernel
theorem dX0_isMade_1 : decode cX0_isMade 1 = .ok (.getfield 22, 3) := by decide +kernel
theorem dX0_isMade_4 : decode cX0_isMade 4 = .ok (.ifCond .le 7, 3) := by decide +kernel
theorem dX0_isMade_7 : decode cX0_isMade 7 = .ok (.iconst 1, 1) := by decide +kernel
theorem dX0_isMade_8 : decode cX0_isMade 8 = .ok (.goto 4, 3) := by decide +kernel
theorem dX0_isMade_11 : decode cX0_isMade 11 = .ok (.iconst 0, 1) := by decide +kernel
theorem dX0_isMade_12 : decode cX0_isMade 12 = .ok (.ireturn, 1) := by decide +kernel
theorem dX0_sectors_0 : decode cX0_sectors 0 = .ok (.aload_n 0, 1) := by decide +kernel
theorem dX0_sectors_1 : decode cX0_sectors 1 = .ok (.getfield 22, 3) := by decide +kernel
theorem dX0_sectors_4 : decode cX0_sectors 4 = .ok (.ireturn, 1) := by decide +kernel
theorem dX0_tellCut_0 : decode cX0_tellCut 0 = .ok (.aload_n 0, 1) := by decide +kernel
theorem dX0_tellCut_1 : decode cX0_tellCut 1 = .ok (.iconst 1, 1) := by decide +kernel
theorem dX0_tellCut_2 : decode cX0_tellCut 2 = .ok (.putfield 26, 3) := by decide +kernel
theorem dX0_tellCut_5 : decode cX0_tellCut 5 = .ok (.aload_n 0, 1) := by decide +kernel
theorem dX0_tellCut_6 : decode cX0_tellCut 6 = .ok (.iload_n 1, 1) := by decide +kernel
theorem dX0_tellCut_7 : decode cX0_tellCut 7 = .ok (.putfield 30, 3) := by decide +kernel
theorem dX0_tellCut_10 : decode cX0_tellCut 10 = .ok (.aload_n 0, 1) := by decide +kernel
theorem dX0_tellCut_11 : decode cX0_tellCut 11 = .ok (.iload_n 2, 1) := by decide +kernel
theorem dX0_tellCut_12 : decode cX0_tellCut 12 = .ok (.putfield 33, 3) := by decide +kernel
theorem dX0_tellCut_15 : decode cX0_tellCut 15 = .ok (.return_, 1) := by decide +kernel
theorem dX0_forgetCut_0 : decode cX0_forgetCut 0 = .ok (.aload_n 0, 1) := by decide +kernel
theorem dX0_forgetCut_1 : decode cX0_forgetCut 1 = .ok (.iconst 0, 1) := by decide +kernel
theorem dX0_forgetCut_2 : decode cX0_forgetCut 2 = .ok (.putfield 26, 3) := by decide +kernel
theorem dX0_forgetCut_5 : decode cX0_forgetCut 5 = .ok (.return_, 1) := by decide +kernel
theorem dX0_copyOver_0 : decode cX0_copyOver 0 = .ok (.aload_n 0, 1) := by decide +kernel
theorem dX0_copyOver_1 : decode cX0_copyOver 1 = .ok (.iload_n 1, 1) := by decide +kernel
theorem dX0_copyOver_2 : decode cX0_copyOver 2 = .ok (.iload_n 2, 1) := by decide +kernel
theorem dX0_copyOver_3 : decode cX0_copyOver 3 = .ok (.invokevirtual 36, 3) := by decide +kernel
theorem dX0_copyOver_6 : decode cX0_copyOver 6 = .ok (.istore_n 3, 1) := by decide +kernel
theorem dX0_copyOver_7 : decode cX0_copyOver 7 = .ok (.aload_n 0, 1) := by decide +kernel
theorem dX0_copyOver_8 : decode cX0_copyOver 8 = .ok (.iconst 1, 1) := by decide +kernel
theorem dX0_copyOver_9 : decode cX0_copyOver 9 = .ok (.iload_n 1, 1) := by decide +kernel
theorem dX0_copyOver_10 : decode cX0_copyOver 10 = .ok (.isub, 1) := by decide +kernel
theorem dX0_copyOver_11 : decode cX0_copyOver 11 = .ok (.iload_n 2, 1) := by decide +kernel
theorem dX0_copyOver_12 : decode cX0_copyOver 12 = .ok (.invokevirtual 36, 3) := by decide +kernel
theorem dX0_copyOver_15 : decode cX0_copyOver 15 = .ok (.istore 4, 2) := by decide +kernel
theorem dX0_copyOver_17 : decode cX0_copyOver 17 = .ok (.aload_n 0, 1) := by decide +kernel
theorem dX0_copyOver_18 : decode cX0_copyOver 18 = .ok (.getfield 10, 3) := by decide +kernel
theorem dX0_copyOver_21 : decode cX0_copyOver 21 = .ok (.arraylength, 1) := by decide +kernel
theorem dX0_copyOver_22 : decode cX0_copyOver 22 = .ok (.sipush 512, 3) := by decide +kernel
theorem dX0_copyOver_25 : decode cX0_copyOver 25 = .ok (.isub, 1) := by decide +kernel
theorem dX0_copyOver_26 : decode cX0_copyOver 26 = .ok (.istore 5, 2) := by decide +kernel
theorem dX0_copyOver_28 : decode cX0_copyOver 28 = .ok (.iload_n 3, 1) := by decide +kernel
theorem dX0_copyOver_29 : decode cX0_copyOver 29 = .ok (.ifCond .lt 38, 3) := by decide +kernel
theorem dX0_copyOver_32 : decode cX0_copyOver 32 = .ok (.iload_n 3, 1) := by decide +kernel
theorem dX0_copyOver_33 : decode cX0_copyOver 33 = .ok (.iload 5, 2) := by decide +kernel
theorem dX0_copyOver_35 : decode cX0_copyOver 35 = .ok (.if_icmp .gt 32, 3) := by decide +kernel
theorem dX0_copyOver_38 : decode cX0_copyOver 38 = .ok (.iload 4, 2) := by decide +kernel
theorem dX0_copyOver_40 : decode cX0_copyOver 40 = .ok (.ifCond .lt 27, 3) := by decide +kernel
theorem dX0_copyOver_43 : decode cX0_copyOver 43 = .ok (.iload 4, 2) := by decide +kernel
theorem dX0_copyOver_45 : decode cX0_copyOver 45 = .ok (.iload 5, 2) := by decide +kernel
theorem dX0_copyOver_47 : decode cX0_copyOver 47 = .ok (.if_icmp .gt 20, 3) := by decide +kernel
theorem dX0_copyOver_50 : decode cX0_copyOver 50 = .ok (.aload_n 0, 1) := by decide +kernel
theorem dX0_copyOver_51 : decode cX0_copyOver 51 = .ok (.getfield 10, 3) := by decide +kernel
theorem dX0_copyOver_54 : decode cX0_copyOver 54 = .ok (.iload_n 3, 1) := by decide +kernel
theorem dX0_copyOver_55 : decode cX0_copyOver 55 = .ok (.aload_n 0, 1) := by decide +kernel
theorem dX0_copyOver_56 : decode cX0_copyOver 56 = .ok (.getfield 10, 3) := by decide +kernel
theorem dX0_copyOver_59 : decode cX0_copyOver 59 = .ok (.iload 4, 2) := by decide +kernel
theorem dX0_copyOver_61 : decode cX0_copyOver 61 = .ok (.sipush 512, 3) := by decide +kernel
theorem dX0_copyOver_64 : decode cX0_copyOver 64 = .ok (.invokestatic 46, 3) := by decide +kernel
theorem dX0_copyOver_67 : decode cX0_copyOver 67 = .ok (.return_, 1) := by decide +kernel
theorem dX0_flip_0 : decode cX0_flip 0 = .ok (.aload_n 0, 1) := by decide +kernel
theorem dX0_flip_1 : decode cX0_flip 1 = .ok (.iload_n 1, 1) := by decide +kernel
theorem dX0_flip_2 : decode cX0_flip 2 = .ok (.iload_n 2, 1) := by decide +kernel
theorem dX0_flip_3 : decode cX0_flip 3 = .ok (.invokevirtual 36, 3) := by decide +kernel
theorem dX0_flip_6 : decode cX0_flip 6 = .ok (.iload_n 3, 1) := by decide +kernel
theorem dX0_flip_7 : decode cX0_flip 7 = .ok (.iadd, 1) := by decide +kernel
theorem dX0_flip_8 : decode cX0_flip 8 = .ok (.istore 5, 2) := by decide +kernel
theorem dX0_flip_10 : decode cX0_flip 10 = .ok (.iload 5, 2) := by decide +kernel
theorem dX0_flip_12 : decode cX0_flip 12 = .ok (.ifCond .lt 31, 3) := by decide +kernel
theorem dX0_flip_15 : decode cX0_flip 15 = .ok (.iload 5, 2) := by decide +kernel
theorem dX0_flip_17 : decode cX0_flip 17 = .ok (.aload_n 0, 1) := by decide +kernel
theorem dX0_flip_18 : decode cX0_flip 18 = .ok (.getfield 10, 3) := by decide +kernel
theorem dX0_flip_21 : decode cX0_flip 21 = .ok (.arraylength, 1) := by decide +kernel
theorem dX0_flip_22 : decode cX0_flip 22 = .ok (.if_icmp .ge 21, 3) := by decide +kernel
theorem dX0_flip_25 : decode cX0_flip 25 = .ok (.aload_n 0, 1) := by decide +kernel
theorem dX0_flip_26 : decode cX0_flip 26 = .ok (.getfield 10, 3) := by decide +kernel
theorem dX0_flip_29 : decode cX0_flip 29 = .ok (.iload 5, 2) := by decide +kernel
theorem dX0_flip_31 : decode cX0_flip 31 = .ok (.aload_n 0, 1) := by decide +kernel
theorem dX0_flip_32 : decode cX0_flip 32 = .ok (.getfield 10, 3) := by decide +kernel
theorem dX0_flip_35 : decode cX0_flip 35 = .ok (.iload 5, 2) := by decide +kernel
theorem dX0_flip_37 : decode cX0_flip 37 = .ok (.baload, 1) := by decide +kernel
theorem dX0_flip_38 : decode cX0_flip 38 = .ok (.iload 4, 2) := by decide +kernel
theorem dX0_flip_40 : decode cX0_flip 40 = .ok (.ixor, 1) := by decide +kernel
theorem dX0_flip_41 : decode cX0_flip 41 = .ok (.i2b, 1) := by decide +kernel
theorem dX0_flip_42 : decode cX0_flip 42 = .ok (.bastore, 1) := by decide +kernel
theorem dX0_flip_43 : decode cX0_flip 43 = .ok (.return_, 1) := by decide +kernel
theorem dX1_put_0 : decode cX1_put 0 = .ok (.iconst 0, 1) := by decide +kernel
theorem dX1_put_1 : decode cX1_put 1 = .ok (.istore 5, 2) := by decide +kernel
theorem dX1_put_3 : decode cX1_put 3 = .ok (.iload 5, 2) := by decide +kernel
theorem dX1_put_5 : decode cX1_put 5 = .ok (.iload 4, 2) := by decide +kernel
theorem dX1_put_7 : decode cX1_put 7 = .ok (.if_icmp .ge 49, 3) := by decide +kernel
theorem dX1_put_10 : decode cX1_put 10 = .ok (.iload_n 1, 1) := by decide +kernel
theorem dX1_put_11 : decode cX1_put 11 = .ok (.iload 5, 2) := by decide +kernel
theorem dX1_put_13 : decode cX1_put 13 = .ok (.iadd, 1) := by decide +kernel
theorem dX1_put_14 : decode cX1_put 14 = .ok (.istore 6, 2) := by decide +kernel
theorem dX1_put_16 : decode cX1_put 16 = .ok (.iload 6, 2) := by decide +kernel
theorem dX1_put_18 : decode cX1_put 18 = .ok (.ifCond .lt 32, 3) := by decide +kernel
theorem dX1_put_21 : decode cX1_put 21 = .ok (.iload 6, 2) := by decide +kernel
theorem dX1_put_23 : decode cX1_put 23 = .ok (.sipush 512, 3) := by decide +kernel
theorem dX1_put_26 : decode cX1_put 26 = .ok (.if_icmp .ge 24, 3) := by decide +kernel
theorem dX1_put_29 : decode cX1_put 29 = .ok (.aload_n 0, 1) := by decide +kernel
theorem dX1_put_30 : decode cX1_put 30 = .ok (.getfield 9, 3) := by decide +kernel
theorem dX1_put_33 : decode cX1_put 33 = .ok (.iload 6, 2) := by decide +kernel
theorem dX1_put_35 : decode cX1_put 35 = .ok (.lload_n 2, 1) := by decide +kernel
theorem dX1_put_36 : decode cX1_put 36 = .ok (.bipush 8, 2) := by decide +kernel
theorem dX1_put_38 : decode cX1_put 38 = .ok (.iload 4, 2) := by decide +kernel
theorem dX1_put_40 : decode cX1_put 40 = .ok (.iconst 1, 1) := by decide +kernel
theorem dX1_put_41 : decode cX1_put 41 = .ok (.isub, 1) := by decide +kernel
theorem dX1_put_42 : decode cX1_put 42 = .ok (.iload 5, 2) := by decide +kernel
theorem dX1_put_44 : decode cX1_put 44 = .ok (.isub, 1) := by decide +kernel
theorem dX1_put_45 : decode cX1_put 45 = .ok (.imul, 1) := by decide +kernel
theorem dX1_put_46 : decode cX1_put 46 = .ok (.lushr, 1) := by decide +kernel
theorem dX1_put_47 : decode cX1_put 47 = .ok (.l2i, 1) := by decide +kernel
theorem dX1_put_48 : decode cX1_put 48 = .ok (.i2b, 1) := by decide +kernel
theorem dX1_put_49 : decode cX1_put 49 = .ok (.bastore, 1) := by decide +kernel
theorem dX1_put_50 : decode cX1_put 50 = .ok (.iinc 5 1, 3) := by decide +kernel
theorem dX1_put_53 : decode cX1_put 53 = .ok (.goto (-50), 3) := by decide +kernel
theorem dX1_put_56 : decode cX1_put 56 = .ok (.return_, 1) := by decide +kernel
theorem dX1_hasRoomFor_0 : decode cX1_hasRoomFor 0 = .ok (.aload_n 0, 1) := by decide +kernel
theorem dX1_hasRoomFor_1 : decode cX1_hasRoomFor 1 = .ok (.getfield 25, 3) := by decide +kernel
theorem dX1_hasRoomFor_4 : decode cX1_hasRoomFor 4 = .ok (.iload_n 1, 1) := by decide +kernel
theorem dX1_hasRoomFor_5 : decode cX1_hasRoomFor 5 = .ok (.iadd, 1) := by decide +kernel
theorem dX1_hasRoomFor_6 : decode cX1_hasRoomFor 6 = .ok (.sipush 508, 3) := by decide +kernel
theorem dX1_hasRoomFor_9 : decode cX1_hasRoomFor 9 = .ok (.if_icmp .gt 7, 3) := by decide +kernel
theorem dX1_hasRoomFor_12 : decode cX1_hasRoomFor 12 = .ok (.iconst 1, 1) := by decide +kernel
theorem dX1_hasRoomFor_13 : decode cX1_hasRoomFor 13 = .ok (.goto 4, 3) := by decide +kernel
theorem dX1_hasRoomFor_16 : decode cX1_hasRoomFor 16 = .ok (.iconst 0, 1) := by decide +kernel
theorem dX1_hasRoomFor_17 : decode cX1_hasRoomFor 17 = .ok (.ireturn, 1) := by decide +kernel
theorem dX1_append_0 : decode cX1_append 0 = .ok (.aload_n 0, 1) := by decide +kernel
theorem dX1_append_1 : decode cX1_append 1 = .ok (.iload_n 3, 1) := by decide +kernel
theorem dX1_append_2 : decode cX1_append 2 = .ok (.invokevirtual 29, 3) := by decide +kernel
theorem dX1_append_5 : decode cX1_append 5 = .ok (.ifCond .eq 23, 3) := by decide +kernel
theorem dX1_append_8 : decode cX1_append 8 = .ok (.aload_n 0, 1) := by decide +kernel
theorem dX1_append_9 : decode cX1_append 9 = .ok (.aload_n 0, 1) := by decide +kernel
theorem dX1_append_10 : decode cX1_append 10 = .ok (.getfield 25, 3) := by decide +kernel
theorem dX1_append_13 : decode cX1_append 13 = .ok (.lload_n 1, 1) := by decide +kernel
theorem dX1_append_14 : decode cX1_append 14 = .ok (.iload_n 3, 1) := by decide +kernel
theorem dX1_append_15 : decode cX1_append 15 = .ok (.invokevirtual 21, 3) := by decide +kernel
theorem dX1_append_18 : decode cX1_append 18 = .ok (.aload_n 0, 1) := by decide +kernel
theorem dX1_append_19 : decode cX1_append 19 = .ok (.dup, 1) := by decide +kernel
theorem dX1_append_20 : decode cX1_append 20 = .ok (.getfield 25, 3) := by decide +kernel
theorem dX1_append_23 : decode cX1_append 23 = .ok (.iload_n 3, 1) := by decide +kernel
theorem dX1_append_24 : decode cX1_append 24 = .ok (.iadd, 1) := by decide +kernel
theorem dX1_append_25 : decode cX1_append 25 = .ok (.putfield 25, 3) := by decide +kernel
theorem dX1_append_28 : decode cX1_append 28 = .ok (.return_, 1) := by decide +kernel
theorem dX1_seal_0 : decode cX1_seal 0 = .ok (.aload_n 0, 1) := by decide +kernel
theorem dX1_seal_1 : decode cX1_seal 1 = .ok (.iconst 4, 1) := by decide +kernel
theorem dX1_seal_2 : decode cX1_seal 2 = .ok (.aload_n 0, 1) := by decide +kernel
theorem dX1_seal_3 : decode cX1_seal 3 = .ok (.getfield 25, 3) := by decide +kernel
theorem dX1_seal_6 : decode cX1_seal 6 = .ok (.bipush 6, 2) := by decide +kernel
theorem dX1_seal_8 : decode cX1_seal 8 = .ok (.isub, 1) := by decide +kernel
theorem dX1_seal_9 : decode cX1_seal 9 = .ok (.i2l, 1) := by decide +kernel
theorem dX1_seal_10 : decode cX1_seal 10 = .ok (.iconst 2, 1) := by decide +kernel
theorem dX1_seal_11 : decode cX1_seal 11 = .ok (.invokevirtual 21, 3) := by decide +kernel
theorem dX1_seal_14 : decode cX1_seal 14 = .ok (.aload_n 0, 1) := by decide +kernel
theorem dX1_seal_15 : decode cX1_seal 15 = .ok (.sipush 508, 3) := by decide +kernel
theorem dX1_seal_18 : decode cX1_seal 18 = .ok (.aload_n 0, 1) := by decide +kernel
theorem dX1_seal_19 : decode cX1_seal 19 = .ok (.getfield 9, 3) := by decide +kernel
theorem dX1_seal_22 : decode cX1_seal 22 = .ok (.iconst 0, 1) := by decide +kernel
theorem dX1_seal_23 : decode cX1_seal 23 = .ok (.invokestatic 33, 3) := by decide +kernel
theorem dX1_seal_26 : decode cX1_seal 26 = .ok (.i2l, 1) := by decide +kernel
theorem dX1_seal_27 : decode cX1_seal 27 = .ok (.iconst 4, 1) := by decide +kernel
theorem dX1_seal_28 : decode cX1_seal 28 = .ok (.invokevirtual 21, 3) := by decide +kernel
theorem dX1_seal_31 : decode cX1_seal 31 = .ok (.return_, 1) := by decide +kernel
theorem dX1_open_0 : decode cX1_open 0 = .ok (.aload_n 0, 1) := by decide +kernel
theorem dX1_open_1 : decode cX1_open 1 = .ok (.getfield 9, 3) := by decide +kernel
theorem dX1_open_4 : decode cX1_open 4 = .ok (.iconst 0, 1) := by decide +kernel
theorem dX1_open_5 : decode cX1_open 5 = .ok (.invokestatic 15, 3) := by decide +kernel
theorem dX1_open_8 : decode cX1_open 8 = .ok (.aload_n 0, 1) := by decide +kernel
theorem dX1_open_9 : decode cX1_open 9 = .ok (.iconst 0, 1) := by decide +kernel
theorem dX1_open_10 : decode cX1_open 10 = .ok (.iload_n 1, 1) := by decide +kernel
theorem dX1_open_11 : decode cX1_open 11 = .ok (.i2l, 1) := by decide +kernel
theorem dX1_open_12 : decode cX1_open 12 = .ok (.iconst 4, 1) := by decide +kernel
theorem dX1_open_13 : decode cX1_open 13 = .ok (.invokevirtual 21, 3) := by decide +kernel
theorem dX1_open_16 : decode cX1_open 16 = .ok (.aload_n 0, 1) := by decide +kernel
theorem dX1_open_17 : decode cX1_open 17 = .ok (.bipush 6, 2) := by decide +kernel
theorem dX1_open_19 : decode cX1_open 19 = .ok (.putfield 25, 3) := by decide +kernel
theorem dX1_open_22 : decode cX1_open 22 = .ok (.return_, 1) := by decide +kernel
theorem dX1_end_0 : decode cX1_end 0 = .ok (.aload_n 0, 1) := by decide +kernel
theorem dX1_end_1 : decode cX1_end 1 = .ok (.getfield 25, 3) := by decide +kernel
theorem dX1_end_4 : decode cX1_end 4 = .ok (.ireturn, 1) := by decide +kernel
theorem dX1_copyTo_0 : decode cX1_copyTo 0 = .ok (.iload_n 2, 1) := by decide +kernel
theorem dX1_copyTo_1 : decode cX1_copyTo 1 = .ok (.ifCond .lt 33, 3) := by decide +kernel
theorem dX1_copyTo_4 : decode cX1_copyTo 4 = .ok (.iload_n 3, 1) := by decide +kernel
theorem dX1_copyTo_5 : decode cX1_copyTo 5 = .ok (.ifCond .lt 29, 3) := by decide +kernel
theorem dX1_copyTo_8 : decode cX1_copyTo 8 = .ok (.iload_n 3, 1) := by decide +kernel
theorem dX1_copyTo_9 : decode cX1_copyTo 9 = .ok (.sipush 512, 3) := by decide +kernel
theorem dX1_copyTo_12 : decode cX1_copyTo 12 = .ok (.if_icmp .gt 22, 3) := by decide +kernel
theorem dX1_copyTo_15 : decode cX1_copyTo 15 = .ok (.iload_n 2, 1) := by decide +kernel
theorem dX1_copyTo_16 : decode cX1_copyTo 16 = .ok (.aload_n 1, 1) := by decide +kernel
theorem dX1_copyTo_17 : decode cX1_copyTo 17 = .ok (.arraylength, 1) := by decide +kernel
theorem dX1_copyTo_18 : decode cX1_copyTo 18 = .ok (.iload_n 3, 1) := by decide +kernel
theorem dX1_copyTo_19 : decode cX1_copyTo 19 = .ok (.isub, 1) := by decide +kernel
theorem dX1_copyTo_20 : decode cX1_copyTo 20 = .ok (.if_icmp .gt 14, 3) := by decide +kernel
theorem dX1_copyTo_23 : decode cX1_copyTo 23 = .ok (.aload_n 0, 1) := by decide +kernel
theorem dX1_copyTo_24 : decode cX1_copyTo 24 = .ok (.getfield 9, 3) := by decide +kernel
theorem dX1_copyTo_27 : decode cX1_copyTo 27 = .ok (.iconst 0, 1) := by decide +kernel
theorem dX1_copyTo_28 : decode cX1_copyTo 28 = .ok (.aload_n 1, 1) := by decide +kernel
theorem dX1_copyTo_29 : decode cX1_copyTo 29 = .ok (.iload_n 2, 1) := by decide +kernel
theorem dX1_copyTo_30 : decode cX1_copyTo 30 = .ok (.iload_n 3, 1) := by decide +kernel
theorem dX1_copyTo_31 : decode cX1_copyTo 31 = .ok (.invokestatic 37, 3) := by decide +kernel
theorem dX1_copyTo_34 : decode cX1_copyTo 34 = .ok (.return_, 1) := by decide +kernel
theorem dX0_write_0 : decode cX0_write 0 = .ok (.aload_n 0, 1) := by decide +kernel
theorem dX0_write_1 : decode cX0_write 1 = .ok (.iload_n 1, 1) := by decide +kernel
theorem dX0_write_2 : decode cX0_write 2 = .ok (.iload_n 2, 1) := by decide +kernel
theorem dX0_write_3 : decode cX0_write 3 = .ok (.invokevirtual 36, 3) := by decide +kernel
theorem dX0_write_6 : decode cX0_write 6 = .ok (.istore 4, 2) := by decide +kernel
theorem dX0_write_8 : decode cX0_write 8 = .ok (.aload_n 0, 1) := by decide +kernel
theorem dX0_write_9 : decode cX0_write 9 = .ok (.getfield 26, 3) := by decide +kernel
theorem dX0_write_12 : decode cX0_write 12 = .ok (.ifCond .ne 18, 3) := by decide +kernel
theorem dX0_write_15 : decode cX0_write 15 = .ok (.aload_n 3, 1) := by decide +kernel
theorem dX0_write_16 : decode cX0_write 16 = .ok (.aload_n 0, 1) := by decide +kernel
theorem dX0_write_17 : decode cX0_write 17 = .ok (.getfield 10, 3) := by decide +kernel
theorem dX0_write_20 : decode cX0_write 20 = .ok (.iload 4, 2) := by decide +kernel
theorem dX0_write_22 : decode cX0_write 22 = .ok (.sipush 512, 3) := by decide +kernel
theorem dX0_write_25 : decode cX0_write 25 = .ok (.invokevirtual 40, 3) := by decide +kernel
theorem dX0_write_28 : decode cX0_write 28 = .ok (.iconst 1, 1) := by decide +kernel
theorem dX0_write_29 : decode cX0_write 29 = .ok (.ireturn, 1) := by decide +kernel
theorem dX0_write_30 : decode cX0_write 30 = .ok (.aload_n 0, 1) := by decide +kernel
theorem dX0_write_31 : decode cX0_write 31 = .ok (.getfield 30, 3) := by decide +kernel
theorem dX0_write_34 : decode cX0_write 34 = .ok (.ifCond .le 28, 3) := by decide +kernel
theorem dX0_write_37 : decode cX0_write 37 = .ok (.aload_n 0, 1) := by decide +kernel
theorem dX0_write_38 : decode cX0_write 38 = .ok (.dup, 1) := by decide +kernel
theorem dX0_write_39 : decode cX0_write 39 = .ok (.getfield 30, 3) := by decide +kernel
theorem dX0_write_42 : decode cX0_write 42 = .ok (.iconst 1, 1) := by decide +kernel
theorem dX0_write_43 : decode cX0_write 43 = .ok (.isub, 1) := by decide +kernel
theorem dX0_write_44 : decode cX0_write 44 = .ok (.putfield 30, 3) := by decide +kernel
theorem dX0_write_47 : decode cX0_write 47 = .ok (.aload_n 3, 1) := by decide +kernel
theorem dX0_write_48 : decode cX0_write 48 = .ok (.aload_n 0, 1) := by decide +kernel
theorem dX0_write_49 : decode cX0_write 49 = .ok (.getfield 10, 3) := by decide +kernel
theorem dX0_write_52 : decode cX0_write 52 = .ok (.iload 4, 2) := by decide +kernel
theorem dX0_write_54 : decode cX0_write 54 = .ok (.sipush 512, 3) := by decide +kernel
theorem dX0_write_57 : decode cX0_write 57 = .ok (.invokevirtual 40, 3) := by decide +kernel
theorem dX0_write_60 : decode cX0_write 60 = .ok (.iconst 1, 1) := by decide +kernel
theorem dX0_write_61 : decode cX0_write 61 = .ok (.ireturn, 1) := by decide +kernel
theorem dX0_write_62 : decode cX0_write 62 = .ok (.aload_n 3, 1) := by decide +kernel
theorem dX0_write_63 : decode cX0_write 63 = .ok (.aload_n 0, 1) := by decide +kernel
theorem dX0_write_64 : decode cX0_write 64 = .ok (.getfield 10, 3) := by decide +kernel
theorem dX0_write_67 : decode cX0_write 67 = .ok (.iload 4, 2) := by decide +kernel
theorem dX0_write_69 : decode cX0_write 69 = .ok (.aload_n 0, 1) := by decide +kernel
theorem dX0_write_70 : decode cX0_write 70 = .ok (.getfield 33, 3) := by decide +kernel
theorem dX0_write_73 : decode cX0_write 73 = .ok (.invokevirtual 40, 3) := by decide +kernel
theorem dX0_write_76 : decode cX0_write 76 = .ok (.aload_n 0, 1) := by decide +kernel
theorem dX0_write_77 : decode cX0_write 77 = .ok (.iconst 0, 1) := by decide +kernel
theorem dX0_write_78 : decode cX0_write 78 = .ok (.putfield 26, 3) := by decide +kernel
theorem dX0_write_81 : decode cX0_write 81 = .ok (.iconst 0, 1) := by decide +kernel
theorem dX0_write_82 : decode cX0_write 82 = .ok (.ireturn, 1) := by decide +kernel
theorem dX2_placeOf_0 : decode cX2_placeOf 0 = .ok (.iload_n 1, 1) := by decide +kernel
theorem dX2_placeOf_1 : decode cX2_placeOf 1 = .ok (.ifCond .lt 20, 3) := by decide +kernel
theorem dX2_placeOf_4 : decode cX2_placeOf 4 = .ok (.iload_n 1, 1) := by decide +kernel
theorem dX2_placeOf_5 : decode cX2_placeOf 5 = .ok (.aload_n 0, 1) := by decide +kernel
theorem dX2_placeOf_6 : decode cX2_placeOf 6 = .ok (.getfield 15, 3) := by decide +kernel
theorem dX2_placeOf_9 : decode cX2_placeOf 9 = .ok (.if_icmp .ge 12, 3) := by decide +kernel
theorem dX2_placeOf_12 : decode cX2_placeOf 12 = .ok (.aload_n 0, 1) := by decide +kernel
theorem dX2_placeOf_13 : decode cX2_placeOf 13 = .ok (.getfield 9, 3) := by decide +kernel
theorem dX2_placeOf_16 : decode cX2_placeOf 16 = .ok (.iload_n 1, 1) := by decide +kernel
theorem dX2_placeOf_17 : decode cX2_placeOf 17 = .ok (.iaload, 1) := by decide +kernel
theorem dX2_placeOf_18 : decode cX2_placeOf 18 = .ok (.goto 4, 3) := by decide +kernel
theorem dX2_placeOf_21 : decode cX2_placeOf 21 = .ok (.iconst 0, 1) := by decide +kernel
theorem dX2_placeOf_22 : decode cX2_placeOf 22 = .ok (.ireturn, 1) := by decide +kernel
theorem dX2_sectorOf_0 : decode cX2_sectorOf 0 = .ok (.aload_n 0, 1) := by decide +kernel
theorem dX2_sectorOf_1 : decode cX2_sectorOf 1 = .ok (.iload_n 1, 1) := by decide +kernel
theorem dX2_sectorOf_2 : decode cX2_sectorOf 2 = .ok (.invokevirtual 19, 3) := by decide +kernel
theorem dX2_sectorOf_5 : decode cX2_sectorOf 5 = .ok (.bipush 13, 2) := by decide +kernel
theorem dX2_sectorOf_7 : decode cX2_sectorOf 7 = .ok (.iushr, 1) := by decide +kernel
theorem dX2_sectorOf_8 : decode cX2_sectorOf 8 = .ok (.ireturn, 1) := by decide +kernel
theorem dX2_startOf_0 : decode cX2_startOf 0 = .ok (.aload_n 0, 1) := by decide +kernel
theorem dX2_startOf_1 : decode cX2_startOf 1 = .ok (.iload_n 1, 1) := by decide +kernel
theorem dX2_startOf_2 : decode cX2_startOf 2 = .ok (.invokevirtual 19, 3) := by decide +kernel
theorem dX2_startOf_5 : decode cX2_startOf 5 = .ok (.iconst 4, 1) := by decide +kernel
theorem dX2_startOf_6 : decode cX2_startOf 6 = .ok (.iushr, 1) := by decide +kernel
theorem dX2_startOf_7 : decode cX2_startOf 7 = .ok (.sipush 511, 3) := by decide +kernel
theorem dX2_startOf_10 : decode cX2_startOf 10 = .ok (.iand, 1) := by decide +kernel
theorem dX2_startOf_11 : decode cX2_startOf 11 = .ok (.ireturn, 1) := by decide +kernel
theorem dX2_lengthOf_0 : decode cX2_lengthOf 0 = .ok (.aload_n 0, 1) := by decide +kernel
theorem dX2_lengthOf_1 : decode cX2_lengthOf 1 = .ok (.iload_n 1, 1) := by decide +kernel
theorem dX2_lengthOf_2 : decode cX2_lengthOf 2 = .ok (.invokevirtual 19, 3) := by decide +kernel
theorem dX2_lengthOf_5 : decode cX2_lengthOf 5 = .ok (.bipush 15, 2) := by decide +kernel
theorem dX2_lengthOf_7 : decode cX2_lengthOf 7 = .ok (.iand, 1) := by decide +kernel
theorem dX2_lengthOf_8 : decode cX2_lengthOf 8 = .ok (.ireturn, 1) := by decide +kernel
theorem dX2_clear_0 : decode cX2_clear 0 = .ok (.aload_n 0, 1) := by decide +kernel
theorem dX2_clear_1 : decode cX2_clear 1 = .ok (.iconst 0, 1) := by decide +kernel
theorem dX2_clear_2 : decode cX2_clear 2 = .ok (.putfield 15, 3) := by decide +kernel
theorem dX2_clear_5 : decode cX2_clear 5 = .ok (.return_, 1) := by decide +kernel
theorem dX2_size_0 : decode cX2_size 0 = .ok (.aload_n 0, 1) := by decide +kernel
theorem dX2_size_1 : decode cX2_size 1 = .ok (.getfield 15, 3) := by decide +kernel
theorem dX2_size_4 : decode cX2_size 4 = .ok (.ireturn, 1) := by decide +kernel
theorem dX2_add_0 : decode cX2_add 0 = .ok (.aload_n 0, 1) := by decide +kernel
theorem dX2_add_1 : decode cX2_add 1 = .ok (.getfield 15, 3) := by decide +kernel
theorem dX2_add_4 : decode cX2_add 4 = .ok (.sipush 5010, 3) := by decide +kernel
theorem dX2_add_7 : decode cX2_add 7 = .ok (.if_icmp .ge 32, 3) := by decide +kernel
theorem dX2_add_10 : decode cX2_add 10 = .ok (.aload_n 0, 1) := by decide +kernel
theorem dX2_add_11 : decode cX2_add 11 = .ok (.getfield 9, 3) := by decide +kernel
theorem dX2_add_14 : decode cX2_add 14 = .ok (.aload_n 0, 1) := by decide +kernel
theorem dX2_add_15 : decode cX2_add 15 = .ok (.getfield 15, 3) := by decide +kernel
theorem dX2_add_18 : decode cX2_add 18 = .ok (.iload_n 1, 1) := by decide +kernel
theorem dX2_add_19 : decode cX2_add 19 = .ok (.bipush 9, 2) := by decide +kernel
theorem dX2_add_21 : decode cX2_add 21 = .ok (.ishl, 1) := by decide +kernel
theorem dX2_add_22 : decode cX2_add 22 = .ok (.iload_n 2, 1) := by decide +kernel
theorem dX2_add_23 : decode cX2_add 23 = .ok (.ior, 1) := by decide +kernel
theorem dX2_add_24 : decode cX2_add 24 = .ok (.iconst 4, 1) := by decide +kernel
theorem dX2_add_25 : decode cX2_add 25 = .ok (.ishl, 1) := by decide +kernel
theorem dX2_add_26 : decode cX2_add 26 = .ok (.iload_n 3, 1) := by decide +kernel
theorem dX2_add_27 : decode cX2_add 27 = .ok (.ior, 1) := by decide +kernel
theorem dX2_add_28 : decode cX2_add 28 = .ok (.iastore, 1) := by decide +kernel
theorem dX2_add_29 : decode cX2_add 29 = .ok (.aload_n 0, 1) := by decide +kernel
theorem dX2_add_30 : decode cX2_add 30 = .ok (.dup, 1) := by decide +kernel
theorem dX2_add_31 : decode cX2_add 31 = .ok (.getfield 15, 3) := by decide +kernel
theorem dX2_add_34 : decode cX2_add 34 = .ok (.iconst 1, 1) := by decide +kernel
theorem dX2_add_35 : decode cX2_add 35 = .ok (.iadd, 1) := by decide +kernel
theorem dX2_add_36 : decode cX2_add 36 = .ok (.putfield 15, 3) := by decide +kernel
theorem dX2_add_39 : decode cX2_add 39 = .ok (.return_, 1) := by decide +kernel
theorem dX3_clear_0 : decode cX3_clear 0 = .ok (.aload_n 0, 1) := by decide +kernel
theorem dX3_clear_1 : decode cX3_clear 1 = .ok (.iconst 0, 1) := by decide +kernel
theorem dX3_clear_2 : decode cX3_clear 2 = .ok (.putfield 15, 3) := by decide +kernel
theorem dX3_clear_5 : decode cX3_clear 5 = .ok (.aload_n 0, 1) := by decide +kernel
theorem dX3_clear_6 : decode cX3_clear 6 = .ok (.iconst 0, 1) := by decide +kernel
theorem dX3_clear_7 : decode cX3_clear 7 = .ok (.putfield 19, 3) := by decide +kernel
theorem dX3_clear_10 : decode cX3_clear 10 = .ok (.aload_n 0, 1) := by decide +kernel
theorem dX3_clear_11 : decode cX3_clear 11 = .ok (.iconst 1, 1) := by decide +kernel
theorem dX3_clear_12 : decode cX3_clear 12 = .ok (.putfield 22, 3) := by decide +kernel
theorem dX3_clear_15 : decode cX3_clear 15 = .ok (.return_, 1) := by decide +kernel
theorem dX3_isLineUp_0 : decode cX3_isLineUp 0 = .ok (.aload_n 0, 1) := by decide +kernel
theorem dX3_isLineUp_1 : decode cX3_isLineUp 1 = .ok (.getfield 22, 3) := by decide +kernel
theorem dX3_isLineUp_4 : decode cX3_isLineUp 4 = .ok (.ireturn, 1) := by decide +kernel
theorem dX3_setLine_0 : decode cX3_setLine 0 = .ok (.aload_n 0, 1) := by decide +kernel
theorem dX3_setLine_1 : decode cX3_setLine 1 = .ok (.iload_n 1, 1) := by decide +kernel
theorem dX3_setLine_2 : decode cX3_setLine 2 = .ok (.putfield 22, 3) := by decide +kernel
theorem dX3_setLine_5 : decode cX3_setLine 5 = .ok (.return_, 1) := by decide +kernel
theorem dX3_present_0 : decode cX3_present 0 = .ok (.aload_n 0, 1) := by decide +kernel
theorem dX3_present_1 : decode cX3_present 1 = .ok (.getfield 19, 3) := by decide +kernel
theorem dX3_present_4 : decode cX3_present 4 = .ok (.ireturn, 1) := by decide +kernel
theorem dX3_sent_0 : decode cX3_sent 0 = .ok (.aload_n 0, 1) := by decide +kernel
theorem dX3_sent_1 : decode cX3_sent 1 = .ok (.getfield 15, 3) := by decide +kernel
theorem dX3_sent_4 : decode cX3_sent 4 = .ok (.ireturn, 1) := by decide +kernel
theorem dX3_take_0 : decode cX3_take 0 = .ok (.iload_n 2, 1) := by decide +kernel
theorem dX3_take_1 : decode cX3_take 1 = .ok (.sipush 5010, 3) := by decide +kernel
theorem dX3_take_4 : decode cX3_take 4 = .ok (.invokestatic 26, 3) := by decide +kernel
theorem dX3_take_7 : decode cX3_take 7 = .ok (.istore_n 3, 1) := by decide +kernel
theorem dX3_take_8 : decode cX3_take 8 = .ok (.iconst 0, 1) := by decide +kernel
theorem dX3_take_9 : decode cX3_take 9 = .ok (.istore 4, 2) := by decide +kernel
theorem dX3_take_11 : decode cX3_take 11 = .ok (.iload 4, 2) := by decide +kernel
theorem dX3_take_13 : decode cX3_take 13 = .ok (.iload_n 1, 1) := by decide +kernel
theorem dX3_take_14 : decode cX3_take 14 = .ok (.if_icmp .ge 57, 3) := by decide +kernel
theorem dX3_take_17 : decode cX3_take 17 = .ok (.aload_n 0, 1) := by decide +kernel
theorem dX3_take_18 : decode cX3_take 18 = .ok (.getfield 15, 3) := by decide +kernel
theorem dX3_take_21 : decode cX3_take 21 = .ok (.iload_n 3, 1) := by decide +kernel
theorem dX3_take_22 : decode cX3_take 22 = .ok (.if_icmp .ge 49, 3) := by decide +kernel
theorem dX3_take_25 : decode cX3_take 25 = .ok (.aload_n 0, 1) := by decide +kernel
theorem dX3_take_26 : decode cX3_take 26 = .ok (.getfield 9, 3) := by decide +kernel
theorem dX3_take_29 : decode cX3_take 29 = .ok (.aload_n 0, 1) := by decide +kernel
theorem dX3_take_30 : decode cX3_take 30 = .ok (.getfield 15, 3) := by decide +kernel
theorem dX3_take_33 : decode cX3_take 33 = .ok (.aload_n 0, 1) := by decide +kernel
theorem dX3_take_34 : decode cX3_take 34 = .ok (.getfield 22, 3) := by decide +kernel
theorem dX3_take_37 : decode cX3_take 37 = .ok (.bastore, 1) := by decide +kernel
theorem dX3_take_38 : decode cX3_take 38 = .ok (.aload_n 0, 1) := by decide +kernel
theorem dX3_take_39 : decode cX3_take 39 = .ok (.dup, 1) := by decide +kernel
theorem dX3_take_40 : decode cX3_take 40 = .ok (.getfield 15, 3) := by decide +kernel
theorem dX3_take_43 : decode cX3_take 43 = .ok (.iconst 1, 1) := by decide +kernel
theorem dX3_take_44 : decode cX3_take 44 = .ok (.iadd, 1) := by decide +kernel
theorem dX3_take_45 : decode cX3_take 45 = .ok (.putfield 15, 3) := by decide +kernel
theorem dX3_take_48 : decode cX3_take 48 = .ok (.aload_n 0, 1) := by decide +kernel
theorem dX3_take_49 : decode cX3_take 49 = .ok (.getfield 22, 3) := by decide +kernel
theorem dX3_take_52 : decode cX3_take 52 = .ok (.ifCond .eq 13, 3) := by decide +kernel
theorem dX3_take_55 : decode cX3_take 55 = .ok (.aload_n 0, 1) := by decide +kernel
theorem dX3_take_56 : decode cX3_take 56 = .ok (.dup, 1) := by decide +kernel
theorem dX3_take_57 : decode cX3_take 57 = .ok (.getfield 19, 3) := by decide +kernel
theorem dX3_take_60 : decode cX3_take 60 = .ok (.iconst 1, 1) := by decide +kernel
theorem dX3_take_61 : decode cX3_take 61 = .ok (.iadd, 1) := by decide +kernel
theorem dX3_take_62 : decode cX3_take 62 = .ok (.putfield 19, 3) := by decide +kernel
theorem dX3_take_65 : decode cX3_take 65 = .ok (.iinc 4 1, 3) := by decide +kernel
theorem dX3_take_68 : decode cX3_take 68 = .ok (.goto (-57), 3) := by decide +kernel
theorem dX3_take_71 : decode cX3_take 71 = .ok (.return_, 1) := by decide +kernel
theorem dX3_fillLowest_0 : decode cX3_fillLowest 0 = .ok (.iconst 0, 1) := by decide +kernel
theorem dX3_fillLowest_1 : decode cX3_fillLowest 1 = .ok (.istore_n 2, 1) := by decide +kernel
theorem dX3_fillLowest_2 : decode cX3_fillLowest 2 = .ok (.iconst 0, 1) := by decide +kernel
theorem dX3_fillLowest_3 : decode cX3_fillLowest 3 = .ok (.istore_n 3, 1) := by decide +kernel
theorem dX3_fillLowest_4 : decode cX3_fillLowest 4 = .ok (.iload_n 3, 1) := by decide +kernel
theorem dX3_fillLowest_5 : decode cX3_fillLowest 5 = .ok (.aload_n 0, 1) := by decide +kernel
theorem dX3_fillLowest_6 : decode cX3_fillLowest 6 = .ok (.getfield 15, 3) := by decide +kernel
theorem dX3_fillLowest_9 : decode cX3_fillLowest 9 = .ok (.if_icmp .ge 33, 3) := by decide +kernel
theorem dX3_fillLowest_12 : decode cX3_fillLowest 12 = .ok (.iload_n 2, 1) := by decide +kernel
theorem dX3_fillLowest_13 : decode cX3_fillLowest 13 = .ok (.iload_n 1, 1) := by decide +kernel
theorem dX3_fillLowest_14 : decode cX3_fillLowest 14 = .ok (.if_icmp .ge 28, 3) := by decide +kernel
theorem dX3_fillLowest_17 : decode cX3_fillLowest 17 = .ok (.aload_n 0, 1) := by decide +kernel
theorem dX3_fillLowest_18 : decode cX3_fillLowest 18 = .ok (.getfield 9, 3) := by decide +kernel
theorem dX3_fillLowest_21 : decode cX3_fillLowest 21 = .ok (.iload_n 3, 1) := by decide +kernel
theorem dX3_fillLowest_22 : decode cX3_fillLowest 22 = .ok (.baload, 1) := by decide +kernel
theorem dX3_fillLowest_23 : decode cX3_fillLowest 23 = .ok (.ifCond .ne 13, 3) := by decide +kernel
theorem dX3_fillLowest_26 : decode cX3_fillLowest 26 = .ok (.aload_n 0, 1) := by decide +kernel
theorem dX3_fillLowest_27 : decode cX3_fillLowest 27 = .ok (.getfield 9, 3) := by decide +kernel
theorem dX3_fillLowest_30 : decode cX3_fillLowest 30 = .ok (.iload_n 3, 1) := by decide +kernel
theorem dX3_fillLowest_31 : decode cX3_fillLowest 31 = .ok (.iconst 1, 1) := by decide +kernel
theorem dX3_fillLowest_32 : decode cX3_fillLowest 32 = .ok (.bastore, 1) := by decide +kernel
theorem dX3_fillLowest_33 : decode cX3_fillLowest 33 = .ok (.iinc 2 1, 3) := by decide +kernel
theorem dX3_fillLowest_36 : decode cX3_fillLowest 36 = .ok (.iinc 3 1, 3) := by decide +kernel
theorem dX3_fillLowest_39 : decode cX3_fillLowest 39 = .ok (.goto (-35), 3) := by decide +kernel
theorem dX3_fillLowest_42 : decode cX3_fillLowest 42 = .ok (.aload_n 0, 1) := by decide +kernel
theorem dX3_fillLowest_43 : decode cX3_fillLowest 43 = .ok (.dup, 1) := by decide +kernel
theorem dX3_fillLowest_44 : decode cX3_fillLowest 44 = .ok (.getfield 19, 3) := by decide +kernel
theorem dX3_fillLowest_47 : decode cX3_fillLowest 47 = .ok (.iload_n 2, 1) := by decide +kernel
theorem dX3_fillLowest_48 : decode cX3_fillLowest 48 = .ok (.iadd, 1) := by decide +kernel
theorem dX3_fillLowest_49 : decode cX3_fillLowest 49 = .ok (.putfield 19, 3) := by decide +kernel
theorem dX3_fillLowest_52 : decode cX3_fillLowest 52 = .ok (.iload_n 2, 1) := by decide +kernel
theorem dX3_fillLowest_53 : decode cX3_fillLowest 53 = .ok (.ireturn, 1) := by decide +kernel
theorem dX3_keepBelow_0 : decode cX3_keepBelow 0 = .ok (.aload_n 0, 1) := by decide +kernel
theorem dX3_keepBelow_1 : decode cX3_keepBelow 1 = .ok (.aload_n 0, 1) := by decide +kernel
theorem dX3_keepBelow_2 : decode cX3_keepBelow 2 = .ok (.getfield 15, 3) := by decide +kernel
theorem dX3_keepBelow_5 : decode cX3_keepBelow 5 = .ok (.iload_n 1, 1) := by decide +kernel
theorem dX3_keepBelow_6 : decode cX3_keepBelow 6 = .ok (.invokestatic 26, 3) := by decide +kernel
theorem dX3_keepBelow_9 : decode cX3_keepBelow 9 = .ok (.putfield 15, 3) := by decide +kernel
theorem dX3_keepBelow_12 : decode cX3_keepBelow 12 = .ok (.aload_n 0, 1) := by decide +kernel
theorem dX3_keepBelow_13 : decode cX3_keepBelow 13 = .ok (.iconst 0, 1) := by decide +kernel
theorem dX3_keepBelow_14 : decode cX3_keepBelow 14 = .ok (.putfield 19, 3) := by decide +kernel
theorem dX3_keepBelow_17 : decode cX3_keepBelow 17 = .ok (.iconst 0, 1) := by decide +kernel
theorem dX3_keepBelow_18 : decode cX3_keepBelow 18 = .ok (.istore_n 2, 1) := by decide +kernel
theorem dX3_keepBelow_19 : decode cX3_keepBelow 19 = .ok (.iload_n 2, 1) := by decide +kernel
theorem dX3_keepBelow_20 : decode cX3_keepBelow 20 = .ok (.aload_n 0, 1) := by decide +kernel
theorem dX3_keepBelow_21 : decode cX3_keepBelow 21 = .ok (.getfield 15, 3) := by decide +kernel
theorem dX3_keepBelow_24 : decode cX3_keepBelow 24 = .ok (.if_icmp .ge 28, 3) := by decide +kernel
theorem dX3_keepBelow_27 : decode cX3_keepBelow 27 = .ok (.aload_n 0, 1) := by decide +kernel
theorem dX3_keepBelow_28 : decode cX3_keepBelow 28 = .ok (.getfield 9, 3) := by decide +kernel
theorem dX3_keepBelow_31 : decode cX3_keepBelow 31 = .ok (.iload_n 2, 1) := by decide +kernel
theorem dX3_keepBelow_32 : decode cX3_keepBelow 32 = .ok (.baload, 1) := by decide +kernel
theorem dX3_keepBelow_33 : decode cX3_keepBelow 33 = .ok (.ifCond .eq 13, 3) := by decide +kernel
theorem dX3_keepBelow_36 : decode cX3_keepBelow 36 = .ok (.aload_n 0, 1) := by decide +kernel
theorem dX3_keepBelow_37 : decode cX3_keepBelow 37 = .ok (.dup, 1) := by decide +kernel
theorem dX3_keepBelow_38 : decode cX3_keepBelow 38 = .ok (.getfield 19, 3) := by decide +kernel
theorem dX3_keepBelow_41 : decode cX3_keepBelow 41 = .ok (.iconst 1, 1) := by decide +kernel
theorem dX3_keepBelow_42 : decode cX3_keepBelow 42 = .ok (.iadd, 1) := by decide +kernel
theorem dX3_keepBelow_43 : decode cX3_keepBelow 43 = .ok (.putfield 19, 3) := by decide +kernel
theorem dX3_keepBelow_46 : decode cX3_keepBelow 46 = .ok (.iinc 2 1, 3) := by decide +kernel
theorem dX3_keepBelow_49 : decode cX3_keepBelow 49 = .ok (.goto (-30), 3) := by decide +kernel
theorem dX3_keepBelow_52 : decode cX3_keepBelow 52 = .ok (.return_, 1) := by decide +kernel
theorem dX3_firstOfGap_0 : decode cX3_firstOfGap 0 = .ok (.iconst 0, 1) := by decide +kernel
theorem dX3_firstOfGap_1 : decode cX3_firstOfGap 1 = .ok (.istore_n 2, 1) := by decide +kernel
theorem dX3_firstOfGap_2 : decode cX3_firstOfGap 2 = .ok (.iconst 0, 1) := by decide +kernel
theorem dX3_firstOfGap_3 : decode cX3_firstOfGap 3 = .ok (.istore_n 3, 1) := by decide +kernel
theorem dX3_firstOfGap_4 : decode cX3_firstOfGap 4 = .ok (.iload_n 3, 1) := by decide +kernel
theorem dX3_firstOfGap_5 : decode cX3_firstOfGap 5 = .ok (.aload_n 0, 1) := by decide +kernel
theorem dX3_firstOfGap_6 : decode cX3_firstOfGap 6 = .ok (.getfield 15, 3) := by decide +kernel
theorem dX3_firstOfGap_9 : decode cX3_firstOfGap 9 = .ok (.if_icmp .ge 60, 3) := by decide +kernel
theorem dX3_firstOfGap_12 : decode cX3_firstOfGap 12 = .ok (.aload_n 0, 1) := by decide +kernel
theorem dX3_firstOfGap_13 : decode cX3_firstOfGap 13 = .ok (.getfield 9, 3) := by decide +kernel
theorem dX3_firstOfGap_16 : decode cX3_firstOfGap 16 = .ok (.iload_n 3, 1) := by decide +kernel
theorem dX3_firstOfGap_17 : decode cX3_firstOfGap 17 = .ok (.baload, 1) := by decide +kernel
theorem dX3_firstOfGap_18 : decode cX3_firstOfGap 18 = .ok (.ifCond .ne 22, 3) := by decide +kernel
theorem dX3_firstOfGap_21 : decode cX3_firstOfGap 21 = .ok (.iload_n 3, 1) := by decide +kernel
theorem dX3_firstOfGap_22 : decode cX3_firstOfGap 22 = .ok (.ifCond .eq 14, 3) := by decide +kernel
theorem dX3_firstOfGap_25 : decode cX3_firstOfGap 25 = .ok (.aload_n 0, 1) := by decide +kernel
theorem dX3_firstOfGap_26 : decode cX3_firstOfGap 26 = .ok (.getfield 9, 3) := by decide +kernel
theorem dX3_firstOfGap_29 : decode cX3_firstOfGap 29 = .ok (.iload_n 3, 1) := by decide +kernel
theorem dX3_firstOfGap_30 : decode cX3_firstOfGap 30 = .ok (.iconst 1, 1) := by decide +kernel
theorem dX3_firstOfGap_31 : decode cX3_firstOfGap 31 = .ok (.isub, 1) := by decide +kernel
theorem dX3_firstOfGap_32 : decode cX3_firstOfGap 32 = .ok (.baload, 1) := by decide +kernel
theorem dX3_firstOfGap_33 : decode cX3_firstOfGap 33 = .ok (.ifCond .eq 7, 3) := by decide +kernel
theorem dX3_firstOfGap_36 : decode cX3_firstOfGap 36 = .ok (.iconst 1, 1) := by decide +kernel
theorem dX3_firstOfGap_37 : decode cX3_firstOfGap 37 = .ok (.goto 4, 3) := by decide +kernel
theorem dX3_firstOfGap_40 : decode cX3_firstOfGap 40 = .ok (.iconst 0, 1) := by decide +kernel
theorem dX3_firstOfGap_41 : decode cX3_firstOfGap 41 = .ok (.istore 4, 2) := by decide +kernel
theorem dX3_firstOfGap_43 : decode cX3_firstOfGap 43 = .ok (.iload 4, 2) := by decide +kernel
theorem dX3_firstOfGap_45 : decode cX3_firstOfGap 45 = .ok (.ifCond .eq 10, 3) := by decide +kernel
theorem dX3_firstOfGap_48 : decode cX3_firstOfGap 48 = .ok (.iload_n 2, 1) := by decide +kernel
theorem dX3_firstOfGap_49 : decode cX3_firstOfGap 49 = .ok (.iload_n 1, 1) := by decide +kernel
theorem dX3_firstOfGap_50 : decode cX3_firstOfGap 50 = .ok (.if_icmp .ne 5, 3) := by decide +kernel
theorem dX3_firstOfGap_53 : decode cX3_firstOfGap 53 = .ok (.iload_n 3, 1) := by decide +kernel
theorem dX3_firstOfGap_54 : decode cX3_firstOfGap 54 = .ok (.ireturn, 1) := by decide +kernel
theorem dX3_firstOfGap_55 : decode cX3_firstOfGap 55 = .ok (.iload 4, 2) := by decide +kernel
theorem dX3_firstOfGap_57 : decode cX3_firstOfGap 57 = .ok (.ifCond .eq 6, 3) := by decide +kernel
theorem dX3_firstOfGap_60 : decode cX3_firstOfGap 60 = .ok (.iinc 2 1, 3) := by decide +kernel
theorem dX3_firstOfGap_63 : decode cX3_firstOfGap 63 = .ok (.iinc 3 1, 3) := by decide +kernel
theorem dX3_firstOfGap_66 : decode cX3_firstOfGap 66 = .ok (.goto (-62), 3) := by decide +kernel
theorem dX3_firstOfGap_69 : decode cX3_firstOfGap 69 = .ok (.iconst (-1), 1) := by decide +kernel
theorem dX3_firstOfGap_70 : decode cX3_firstOfGap 70 = .ok (.ireturn, 1) := by decide +kernel
theorem dX3_missingFrom_0 : decode cX3_missingFrom 0 = .ok (.iload_n 1, 1) := by decide +kernel
theorem dX3_missingFrom_1 : decode cX3_missingFrom 1 = .ok (.iconst 0, 1) := by decide +kernel
theorem dX3_missingFrom_2 : decode cX3_missingFrom 2 = .ok (.invokestatic 32, 3) := by decide +kernel
theorem dX3_missingFrom_5 : decode cX3_missingFrom 5 = .ok (.istore_n 2, 1) := by decide +kernel
theorem dX3_missingFrom_6 : decode cX3_missingFrom 6 = .ok (.iload_n 2, 1) := by decide +kernel
theorem dX3_missingFrom_7 : decode cX3_missingFrom 7 = .ok (.aload_n 0, 1) := by decide +kernel
theorem dX3_missingFrom_8 : decode cX3_missingFrom 8 = .ok (.getfield 15, 3) := by decide +kernel
theorem dX3_missingFrom_11 : decode cX3_missingFrom 11 = .ok (.if_icmp .ge 18, 3) := by decide +kernel
theorem dX3_missingFrom_14 : decode cX3_missingFrom 14 = .ok (.aload_n 0, 1) := by decide +kernel
theorem dX3_missingFrom_15 : decode cX3_missingFrom 15 = .ok (.getfield 9, 3) := by decide +kernel
theorem dX3_missingFrom_18 : decode cX3_missingFrom 18 = .ok (.iload_n 2, 1) := by decide +kernel
theorem dX3_missingFrom_19 : decode cX3_missingFrom 19 = .ok (.baload, 1) := by decide +kernel
theorem dX3_missingFrom_20 : decode cX3_missingFrom 20 = .ok (.ifCond .ne 9, 3) := by decide +kernel
theorem dX3_missingFrom_23 : decode cX3_missingFrom 23 = .ok (.iinc 2 1, 3) := by decide +kernel
theorem dX3_missingFrom_26 : decode cX3_missingFrom 26 = .ok (.goto (-20), 3) := by decide +kernel
theorem dX3_missingFrom_29 : decode cX3_missingFrom 29 = .ok (.iload_n 2, 1) := by decide +kernel
theorem dX3_missingFrom_30 : decode cX3_missingFrom 30 = .ok (.iload_n 1, 1) := by decide +kernel
theorem dX3_missingFrom_31 : decode cX3_missingFrom 31 = .ok (.isub, 1) := by decide +kernel
theorem dX3_missingFrom_32 : decode cX3_missingFrom 32 = .ok (.ireturn, 1) := by decide +kernel
theorem dX4_clear_0 : decode cX4_clear 0 = .ok (.aload_n 0, 1) := by decide +kernel
theorem dX4_clear_1 : decode cX4_clear 1 = .ok (.iconst 0, 1) := by decide +kernel
theorem dX4_clear_2 : decode cX4_clear 2 = .ok (.putfield 22, 3) := by decide +kernel
theorem dX4_clear_5 : decode cX4_clear 5 = .ok (.return_, 1) := by decide +kernel
theorem dX4_size_0 : decode cX4_size 0 = .ok (.aload_n 0, 1) := by decide +kernel
theorem dX4_size_1 : decode cX4_size 1 = .ok (.getfield 22, 3) := by decide +kernel
theorem dX4_size_4 : decode cX4_size 4 = .ok (.ireturn, 1) := by decide +kernel
theorem dX4_isFull_0 : decode cX4_isFull 0 = .ok (.aload_n 0, 1) := by decide +kernel
theorem dX4_isFull_1 : decode cX4_isFull 1 = .ok (.getfield 22, 3) := by decide +kernel
theorem dX4_isFull_4 : decode cX4_isFull 4 = .ok (.bipush 100, 2) := by decide +kernel
theorem dX4_isFull_6 : decode cX4_isFull 6 = .ok (.if_icmp .lt 7, 3) := by decide +kernel
theorem dX4_isFull_9 : decode cX4_isFull 9 = .ok (.iconst 1, 1) := by decide +kernel
theorem dX4_isFull_10 : decode cX4_isFull 10 = .ok (.goto 4, 3) := by decide +kernel
theorem dX4_isFull_13 : decode cX4_isFull 13 = .ok (.iconst 0, 1) := by decide +kernel
theorem dX4_isFull_14 : decode cX4_isFull 14 = .ok (.ireturn, 1) := by decide +kernel
theorem dX4_add_0 : decode cX4_add 0 = .ok (.aload_n 0, 1) := by decide +kernel
theorem dX4_add_1 : decode cX4_add 1 = .ok (.getfield 22, 3) := by decide +kernel
theorem dX4_add_4 : decode cX4_add 4 = .ok (.bipush 100, 2) := by decide +kernel
theorem dX4_add_6 : decode cX4_add 6 = .ok (.if_icmp .ge 44, 3) := by decide +kernel
theorem dX4_add_9 : decode cX4_add 9 = .ok (.aload_n 0, 1) := by decide +kernel
theorem dX4_add_10 : decode cX4_add 10 = .ok (.getfield 9, 3) := by decide +kernel
theorem dX4_add_13 : decode cX4_add 13 = .ok (.aload_n 0, 1) := by decide +kernel
theorem dX4_add_14 : decode cX4_add 14 = .ok (.getfield 22, 3) := by decide +kernel
theorem dX4_add_17 : decode cX4_add 17 = .ok (.iload_n 1, 1) := by decide +kernel
theorem dX4_add_18 : decode cX4_add 18 = .ok (.iastore, 1) := by decide +kernel
theorem dX4_add_19 : decode cX4_add 19 = .ok (.aload_n 0, 1) := by decide +kernel
theorem dX4_add_20 : decode cX4_add 20 = .ok (.getfield 15, 3) := by decide +kernel
theorem dX4_add_23 : decode cX4_add 23 = .ok (.aload_n 0, 1) := by decide +kernel
theorem dX4_add_24 : decode cX4_add 24 = .ok (.getfield 22, 3) := by decide +kernel
theorem dX4_add_27 : decode cX4_add 27 = .ok (.iload 4, 2) := by decide +kernel
theorem dX4_add_29 : decode cX4_add 29 = .ok (.iastore, 1) := by decide +kernel
theorem dX4_add_30 : decode cX4_add 30 = .ok (.aload_n 0, 1) := by decide +kernel
theorem dX4_add_31 : decode cX4_add 31 = .ok (.getfield 18, 3) := by decide +kernel
theorem dX4_add_34 : decode cX4_add 34 = .ok (.aload_n 0, 1) := by decide +kernel
theorem dX4_add_35 : decode cX4_add 35 = .ok (.getfield 22, 3) := by decide +kernel
theorem dX4_add_38 : decode cX4_add 38 = .ok (.lload_n 2, 1) := by decide +kernel
theorem dX4_add_39 : decode cX4_add 39 = .ok (.lastore, 1) := by decide +kernel
theorem dX4_add_40 : decode cX4_add 40 = .ok (.aload_n 0, 1) := by decide +kernel
theorem dX4_add_41 : decode cX4_add 41 = .ok (.dup, 1) := by decide +kernel
theorem dX4_add_42 : decode cX4_add 42 = .ok (.getfield 22, 3) := by decide +kernel
theorem dX4_add_45 : decode cX4_add 45 = .ok (.iconst 1, 1) := by decide +kernel
theorem dX4_add_46 : decode cX4_add 46 = .ok (.iadd, 1) := by decide +kernel
theorem dX4_add_47 : decode cX4_add 47 = .ok (.putfield 22, 3) := by decide +kernel
theorem dX4_add_50 : decode cX4_add 50 = .ok (.return_, 1) := by decide +kernel
theorem dX4_kindOf_0 : decode cX4_kindOf 0 = .ok (.iload_n 1, 1) := by decide +kernel
theorem dX4_kindOf_1 : decode cX4_kindOf 1 = .ok (.ifCond .lt 20, 3) := by decide +kernel
theorem dX4_kindOf_4 : decode cX4_kindOf 4 = .ok (.iload_n 1, 1) := by decide +kernel
theorem dX4_kindOf_5 : decode cX4_kindOf 5 = .ok (.aload_n 0, 1) := by decide +kernel
theorem dX4_kindOf_6 : decode cX4_kindOf 6 = .ok (.getfield 22, 3) := by decide +kernel
theorem dX4_kindOf_9 : decode cX4_kindOf 9 = .ok (.if_icmp .ge 12, 3) := by decide +kernel
theorem dX4_kindOf_12 : decode cX4_kindOf 12 = .ok (.aload_n 0, 1) := by decide +kernel
theorem dX4_kindOf_13 : decode cX4_kindOf 13 = .ok (.getfield 9, 3) := by decide +kernel
theorem dX4_kindOf_16 : decode cX4_kindOf 16 = .ok (.iload_n 1, 1) := by decide +kernel
theorem dX4_kindOf_17 : decode cX4_kindOf 17 = .ok (.iaload, 1) := by decide +kernel
theorem dX4_kindOf_18 : decode cX4_kindOf 18 = .ok (.goto 4, 3) := by decide +kernel
theorem dX4_kindOf_21 : decode cX4_kindOf 21 = .ok (.iconst 0, 1) := by decide +kernel
theorem dX4_kindOf_22 : decode cX4_kindOf 22 = .ok (.ireturn, 1) := by decide +kernel
theorem dX4_lengthOf_0 : decode cX4_lengthOf 0 = .ok (.iload_n 1, 1) := by decide +kernel
theorem dX4_lengthOf_1 : decode cX4_lengthOf 1 = .ok (.ifCond .lt 20, 3) := by decide +kernel
theorem dX4_lengthOf_4 : decode cX4_lengthOf 4 = .ok (.iload_n 1, 1) := by decide +kernel
theorem dX4_lengthOf_5 : decode cX4_lengthOf 5 = .ok (.aload_n 0, 1) := by decide +kernel
theorem dX4_lengthOf_6 : decode cX4_lengthOf 6 = .ok (.getfield 22, 3) := by decide +kernel
theorem dX4_lengthOf_9 : decode cX4_lengthOf 9 = .ok (.if_icmp .ge 12, 3) := by decide +kernel
theorem dX4_lengthOf_12 : decode cX4_lengthOf 12 = .ok (.aload_n 0, 1) := by decide +kernel
theorem dX4_lengthOf_13 : decode cX4_lengthOf 13 = .ok (.getfield 15, 3) := by decide +kernel
theorem dX4_lengthOf_16 : decode cX4_lengthOf 16 = .ok (.iload_n 1, 1) := by decide +kernel
theorem dX4_lengthOf_17 : decode cX4_lengthOf 17 = .ok (.iaload, 1) := by decide +kernel
theorem dX4_lengthOf_18 : decode cX4_lengthOf 18 = .ok (.goto 4, 3) := by decide +kernel
theorem dX4_lengthOf_21 : decode cX4_lengthOf 21 = .ok (.iconst 0, 1) := by decide +kernel
theorem dX4_lengthOf_22 : decode cX4_lengthOf 22 = .ok (.ireturn, 1) := by decide +kernel
theorem dX4_bytesOf_0 : decode cX4_bytesOf 0 = .ok (.iload_n 1, 1) := by decide +kernel
theorem dX4_bytesOf_1 : decode cX4_bytesOf 1 = .ok (.ifCond .lt 20, 3) := by decide +kernel
theorem dX4_bytesOf_4 : decode cX4_bytesOf 4 = .ok (.iload_n 1, 1) := by decide +kernel
theorem dX4_bytesOf_5 : decode cX4_bytesOf 5 = .ok (.aload_n 0, 1) := by decide +kernel
theorem dX4_bytesOf_6 : decode cX4_bytesOf 6 = .ok (.getfield 22, 3) := by decide +kernel
theorem dX4_bytesOf_9 : decode cX4_bytesOf 9 = .ok (.if_icmp .ge 12, 3) := by decide +kernel
theorem dX4_bytesOf_12 : decode cX4_bytesOf 12 = .ok (.aload_n 0, 1) := by decide +kernel
theorem dX4_bytesOf_13 : decode cX4_bytesOf 13 = .ok (.getfield 18, 3) := by decide +kernel
theorem dX4_bytesOf_16 : decode cX4_bytesOf 16 = .ok (.iload_n 1, 1) := by decide +kernel
theorem dX4_bytesOf_17 : decode cX4_bytesOf 17 = .ok (.laload, 1) := by decide +kernel
theorem dX4_bytesOf_18 : decode cX4_bytesOf 18 = .ok (.goto 4, 3) := by decide +kernel
theorem dX4_bytesOf_21 : decode cX4_bytesOf 21 = .ok (.lconst 0, 1) := by decide +kernel
theorem dX4_bytesOf_22 : decode cX4_bytesOf 22 = .ok (.lreturn, 1) := by decide +kernel
theorem dX4_sectorsWith_0 : decode cX4_sectorsWith 0 = .ok (.iconst 1, 1) := by decide +kernel
theorem dX4_sectorsWith_1 : decode cX4_sectorsWith 1 = .ok (.istore_n 2, 1) := by decide +kernel
theorem dX4_sectorsWith_2 : decode cX4_sectorsWith 2 = .ok (.iconst 0, 1) := by decide +kernel
theorem dX4_sectorsWith_3 : decode cX4_sectorsWith 3 = .ok (.istore_n 3, 1) := by decide +kernel
theorem dX4_sectorsWith_4 : decode cX4_sectorsWith 4 = .ok (.iconst 0, 1) := by decide +kernel
theorem dX4_sectorsWith_5 : decode cX4_sectorsWith 5 = .ok (.istore 4, 2) := by decide +kernel
theorem dX4_sectorsWith_7 : decode cX4_sectorsWith 7 = .ok (.iload 4, 2) := by decide +kernel
theorem dX4_sectorsWith_9 : decode cX4_sectorsWith 9 = .ok (.aload_n 0, 1) := by decide +kernel
theorem dX4_sectorsWith_10 : decode cX4_sectorsWith 10 = .ok (.getfield 22, 3) := by decide +kernel
theorem dX4_sectorsWith_13 : decode cX4_sectorsWith 13 = .ok (.if_icmp .gt 52, 3) := by decide +kernel
theorem dX4_sectorsWith_16 : decode cX4_sectorsWith 16 = .ok (.iload 4, 2) := by decide +kernel
theorem dX4_sectorsWith_18 : decode cX4_sectorsWith 18 = .ok (.aload_n 0, 1) := by decide +kernel
theorem dX4_sectorsWith_19 : decode cX4_sectorsWith 19 = .ok (.getfield 22, 3) := by decide +kernel
theorem dX4_sectorsWith_22 : decode cX4_sectorsWith 22 = .ok (.if_icmp .ge 14, 3) := by decide +kernel
theorem dX4_sectorsWith_25 : decode cX4_sectorsWith 25 = .ok (.iconst 2, 1) := by decide +kernel
theorem dX4_sectorsWith_26 : decode cX4_sectorsWith 26 = .ok (.aload_n 0, 1) := by decide +kernel
theorem dX4_sectorsWith_27 : decode cX4_sectorsWith 27 = .ok (.iload 4, 2) := by decide +kernel
theorem dX4_sectorsWith_29 : decode cX4_sectorsWith 29 = .ok (.invokevirtual 26, 3) := by decide +kernel
theorem dX4_sectorsWith_32 : decode cX4_sectorsWith 32 = .ok (.iadd, 1) := by decide +kernel
theorem dX4_sectorsWith_33 : decode cX4_sectorsWith 33 = .ok (.goto 4, 3) := by decide +kernel
theorem dX4_sectorsWith_36 : decode cX4_sectorsWith 36 = .ok (.iload_n 1, 1) := by decide +kernel
theorem dX4_sectorsWith_37 : decode cX4_sectorsWith 37 = .ok (.istore 5, 2) := by decide +kernel
theorem dX4_sectorsWith_39 : decode cX4_sectorsWith 39 = .ok (.iload_n 3, 1) := by decide +kernel
theorem dX4_sectorsWith_40 : decode cX4_sectorsWith 40 = .ok (.iload 5, 2) := by decide +kernel
theorem dX4_sectorsWith_42 : decode cX4_sectorsWith 42 = .ok (.iadd, 1) := by decide +kernel
theorem dX4_sectorsWith_43 : decode cX4_sectorsWith 43 = .ok (.sipush 502, 3) := by decide +kernel
theorem dX4_sectorsWith_46 : decode cX4_sectorsWith 46 = .ok (.if_icmp .le 8, 3) := by decide +kernel
theorem dX4_sectorsWith_49 : decode cX4_sectorsWith 49 = .ok (.iinc 2 1, 3) := by decide +kernel
theorem dX4_sectorsWith_52 : decode cX4_sectorsWith 52 = .ok (.iconst 0, 1) := by decide +kernel
theorem dX4_sectorsWith_53 : decode cX4_sectorsWith 53 = .ok (.istore_n 3, 1) := by decide +kernel
theorem dX4_sectorsWith_54 : decode cX4_sectorsWith 54 = .ok (.iload_n 3, 1) := by decide +kernel
theorem dX4_sectorsWith_55 : decode cX4_sectorsWith 55 = .ok (.iload 5, 2) := by decide +kernel
theorem dX4_sectorsWith_57 : decode cX4_sectorsWith 57 = .ok (.iadd, 1) := by decide +kernel
theorem dX4_sectorsWith_58 : decode cX4_sectorsWith 58 = .ok (.istore_n 3, 1) := by decide +kernel
theorem dX4_sectorsWith_59 : decode cX4_sectorsWith 59 = .ok (.iinc 4 1, 3) := by decide +kernel
theorem dX4_sectorsWith_62 : decode cX4_sectorsWith 62 = .ok (.goto (-55), 3) := by decide +kernel
theorem dX4_sectorsWith_65 : decode cX4_sectorsWith 65 = .ok (.iload_n 2, 1) := by decide +kernel
theorem dX4_sectorsWith_66 : decode cX4_sectorsWith 66 = .ok (.ireturn, 1) := by decide +kernel
