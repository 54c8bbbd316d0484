theorem dX5_sectorsLeftFor_0 : decode cX5_sectorsLeftFor 0 = .ok (.aload_n 0, 1) := by decide +kernel
theorem dX5_sectorsLeftFor_1 : decode cX5_sectorsLeftFor 1 = .ok (.getfield 12, 3) := by decide +kernel
theorem dX5_sectorsLeftFor_4 : decode cX5_sectorsLeftFor 4 = .ok (.invokevirtual 236, 3) := by decide +kernel
theorem dX5_sectorsLeftFor_7 : decode cX5_sectorsLeftFor 7 = .ok (.aload_n 0, 1) := by decide +kernel
theorem dX5_sectorsLeftFor_8 : decode cX5_sectorsLeftFor 8 = .ok (.getfield 65, 3) := by decide +kernel
theorem dX5_sectorsLeftFor_11 : decode cX5_sectorsLeftFor 11 = .ok (.isub, 1) := by decide +kernel
theorem dX5_sectorsLeftFor_12 : decode cX5_sectorsLeftFor 12 = .ok (.istore_n 2, 1) := by decide +kernel
theorem dX5_sectorsLeftFor_13 : decode cX5_sectorsLeftFor 13 = .ok (.iload_n 1, 1) := by decide +kernel
theorem dX5_sectorsLeftFor_14 : decode cX5_sectorsLeftFor 14 = .ok (.iconst 4, 1) := by decide +kernel
theorem dX5_sectorsLeftFor_15 : decode cX5_sectorsLeftFor 15 = .ok (.if_icmp .lt 12, 3) := by decide +kernel
theorem dX5_sectorsLeftFor_18 : decode cX5_sectorsLeftFor 18 = .ok (.iload_n 2, 1) := by decide +kernel
theorem dX5_sectorsLeftFor_19 : decode cX5_sectorsLeftFor 19 = .ok (.aload_n 0, 1) := by decide +kernel
theorem dX5_sectorsLeftFor_20 : decode cX5_sectorsLeftFor 20 = .ok (.getfield 61, 3) := by decide +kernel
theorem dX5_sectorsLeftFor_23 : decode cX5_sectorsLeftFor 23 = .ok (.isub, 1) := by decide +kernel
theorem dX5_sectorsLeftFor_24 : decode cX5_sectorsLeftFor 24 = .ok (.goto 4, 3) := by decide +kernel
theorem dX5_sectorsLeftFor_27 : decode cX5_sectorsLeftFor 27 = .ok (.iload_n 2, 1) := by decide +kernel
theorem dX5_sectorsLeftFor_28 : decode cX5_sectorsLeftFor 28 = .ok (.ireturn, 1) := by decide +kernel
theorem dX5_noteReadFrom_0 : decode cX5_noteReadFrom 0 = .ok (.iload_n 1, 1) := by decide +kernel
theorem dX5_noteReadFrom_1 : decode cX5_noteReadFrom 1 = .ok (.iconst 1, 1) := by decide +kernel
theorem dX5_noteReadFrom_2 : decode cX5_noteReadFrom 2 = .ok (.if_icmp .ne 13, 3) := by decide +kernel
theorem dX5_noteReadFrom_5 : decode cX5_noteReadFrom 5 = .ok (.aload_n 0, 1) := by decide +kernel
theorem dX5_noteReadFrom_6 : decode cX5_noteReadFrom 6 = .ok (.dup, 1) := by decide +kernel
theorem dX5_noteReadFrom_7 : decode cX5_noteReadFrom 7 = .ok (.getfield 75, 3) := by decide +kernel
theorem dX5_noteReadFrom_10 : decode cX5_noteReadFrom 10 = .ok (.iconst 1, 1) := by decide +kernel
theorem dX5_noteReadFrom_11 : decode cX5_noteReadFrom 11 = .ok (.iadd, 1) := by decide +kernel
theorem dX5_noteReadFrom_12 : decode cX5_noteReadFrom 12 = .ok (.putfield 75, 3) := by decide +kernel
theorem dX5_noteReadFrom_15 : decode cX5_noteReadFrom 15 = .ok (.return_, 1) := by decide +kernel
theorem dX5_stateSectorOf_0 : decode cX5_stateSectorOf 0 = .ok (.iload_n 1, 1) := by decide +kernel
theorem dX5_stateSectorOf_1 : decode cX5_stateSectorOf 1 = .ok (.iconst 1, 1) := by decide +kernel
theorem dX5_stateSectorOf_2 : decode cX5_stateSectorOf 2 = .ok (.iand, 1) := by decide +kernel
theorem dX5_stateSectorOf_3 : decode cX5_stateSectorOf 3 = .ok (.ifCond .eq 7, 3) := by decide +kernel
theorem dX5_stateSectorOf_6 : decode cX5_stateSectorOf 6 = .ok (.iconst 1, 1) := by decide +kernel
theorem dX5_stateSectorOf_7 : decode cX5_stateSectorOf 7 = .ok (.goto 4, 3) := by decide +kernel
theorem dX5_stateSectorOf_10 : decode cX5_stateSectorOf 10 = .ok (.iconst 0, 1) := by decide +kernel
theorem dX5_stateSectorOf_11 : decode cX5_stateSectorOf 11 = .ok (.istore_n 2, 1) := by decide +kernel
theorem dX5_stateSectorOf_12 : decode cX5_stateSectorOf 12 = .ok (.iload_n 2, 1) := by decide +kernel
theorem dX5_stateSectorOf_13 : decode cX5_stateSectorOf 13 = .ok (.ifCond .eq 13, 3) := by decide +kernel
theorem dX5_stateSectorOf_16 : decode cX5_stateSectorOf 16 = .ok (.aload_n 0, 1) := by decide +kernel
theorem dX5_stateSectorOf_17 : decode cX5_stateSectorOf 17 = .ok (.getfield 12, 3) := by decide +kernel
theorem dX5_stateSectorOf_20 : decode cX5_stateSectorOf 20 = .ok (.invokevirtual 236, 3) := by decide +kernel
theorem dX5_stateSectorOf_23 : decode cX5_stateSectorOf 23 = .ok (.goto 12, 3) := by decide +kernel
theorem dX5_stateSectorOf_26 : decode cX5_stateSectorOf 26 = .ok (.aload_n 0, 1) := by decide +kernel
theorem dX5_stateSectorOf_27 : decode cX5_stateSectorOf 27 = .ok (.getfield 12, 3) := by decide +kernel
theorem dX5_stateSectorOf_30 : decode cX5_stateSectorOf 30 = .ok (.invokevirtual 236, 3) := by decide +kernel
theorem dX5_stateSectorOf_33 : decode cX5_stateSectorOf 33 = .ok (.iconst 1, 1) := by decide +kernel
theorem dX5_stateSectorOf_34 : decode cX5_stateSectorOf 34 = .ok (.iadd, 1) := by decide +kernel
theorem dX5_stateSectorOf_35 : decode cX5_stateSectorOf 35 = .ok (.ireturn, 1) := by decide +kernel
theorem dX5_draftRowsFrom_0 : decode cX5_draftRowsFrom 0 = .ok (.aload_n 0, 1) := by decide +kernel
theorem dX5_draftRowsFrom_1 : decode cX5_draftRowsFrom 1 = .ok (.getfield 19, 3) := by decide +kernel
theorem dX5_draftRowsFrom_4 : decode cX5_draftRowsFrom 4 = .ok (.aload_n 0, 1) := by decide +kernel
theorem dX5_draftRowsFrom_5 : decode cX5_draftRowsFrom 5 = .ok (.getfield 65, 3) := by decide +kernel
theorem dX5_draftRowsFrom_8 : decode cX5_draftRowsFrom 8 = .ok (.iconst 1, 1) := by decide +kernel
theorem dX5_draftRowsFrom_9 : decode cX5_draftRowsFrom 9 = .ok (.iadd, 1) := by decide +kernel
theorem dX5_draftRowsFrom_10 : decode cX5_draftRowsFrom 10 = .ok (.invokevirtual 122, 3) := by decide +kernel
theorem dX5_draftRowsFrom_13 : decode cX5_draftRowsFrom 13 = .ok (.iload_n 1, 1) := by decide +kernel
theorem dX5_draftRowsFrom_14 : decode cX5_draftRowsFrom 14 = .ok (.istore_n 2, 1) := by decide +kernel
theorem dX5_draftRowsFrom_15 : decode cX5_draftRowsFrom 15 = .ok (.iload_n 2, 1) := by decide +kernel
theorem dX5_draftRowsFrom_16 : decode cX5_draftRowsFrom 16 = .ok (.aload_n 0, 1) := by decide +kernel
theorem dX5_draftRowsFrom_17 : decode cX5_draftRowsFrom 17 = .ok (.getfield 26, 3) := by decide +kernel
theorem dX5_draftRowsFrom_20 : decode cX5_draftRowsFrom 20 = .ok (.invokevirtual 110, 3) := by decide +kernel
theorem dX5_draftRowsFrom_23 : decode cX5_draftRowsFrom 23 = .ok (.if_icmp .ge 100, 3) := by decide +kernel
theorem dX5_draftRowsFrom_26 : decode cX5_draftRowsFrom 26 = .ok (.aload_n 0, 1) := by decide +kernel
theorem dX5_draftRowsFrom_27 : decode cX5_draftRowsFrom 27 = .ok (.getfield 19, 3) := by decide +kernel
theorem dX5_draftRowsFrom_30 : decode cX5_draftRowsFrom 30 = .ok (.iconst 2, 1) := by decide +kernel
theorem dX5_draftRowsFrom_31 : decode cX5_draftRowsFrom 31 = .ok (.aload_n 0, 1) := by decide +kernel
theorem dX5_draftRowsFrom_32 : decode cX5_draftRowsFrom 32 = .ok (.getfield 26, 3) := by decide +kernel
theorem dX5_draftRowsFrom_35 : decode cX5_draftRowsFrom 35 = .ok (.iload_n 2, 1) := by decide +kernel
theorem dX5_draftRowsFrom_36 : decode cX5_draftRowsFrom 36 = .ok (.invokevirtual 239, 3) := by decide +kernel
theorem dX5_draftRowsFrom_39 : decode cX5_draftRowsFrom 39 = .ok (.iadd, 1) := by decide +kernel
theorem dX5_draftRowsFrom_40 : decode cX5_draftRowsFrom 40 = .ok (.invokevirtual 240, 3) := by decide +kernel
theorem dX5_draftRowsFrom_43 : decode cX5_draftRowsFrom 43 = .ok (.ifCond .eq 80, 3) := by decide +kernel
theorem dX5_draftRowsFrom_46 : decode cX5_draftRowsFrom 46 = .ok (.aload_n 0, 1) := by decide +kernel
theorem dX5_draftRowsFrom_47 : decode cX5_draftRowsFrom 47 = .ok (.getfield 26, 3) := by decide +kernel
theorem dX5_draftRowsFrom_50 : decode cX5_draftRowsFrom 50 = .ok (.iload_n 2, 1) := by decide +kernel
theorem dX5_draftRowsFrom_51 : decode cX5_draftRowsFrom 51 = .ok (.invokevirtual 239, 3) := by decide +kernel
theorem dX5_draftRowsFrom_54 : decode cX5_draftRowsFrom 54 = .ok (.istore_n 3, 1) := by decide +kernel
theorem dX5_draftRowsFrom_55 : decode cX5_draftRowsFrom 55 = .ok (.aload_n 0, 1) := by decide +kernel
theorem dX5_draftRowsFrom_56 : decode cX5_draftRowsFrom 56 = .ok (.getfield 33, 3) := by decide +kernel
theorem dX5_draftRowsFrom_59 : decode cX5_draftRowsFrom 59 = .ok (.aload_n 0, 1) := by decide +kernel
theorem dX5_draftRowsFrom_60 : decode cX5_draftRowsFrom 60 = .ok (.getfield 65, 3) := by decide +kernel
theorem dX5_draftRowsFrom_63 : decode cX5_draftRowsFrom 63 = .ok (.aload_n 0, 1) := by decide +kernel
theorem dX5_draftRowsFrom_64 : decode cX5_draftRowsFrom 64 = .ok (.getfield 19, 3) := by decide +kernel
theorem dX5_draftRowsFrom_67 : decode cX5_draftRowsFrom 67 = .ok (.invokevirtual 243, 3) := by decide +kernel
theorem dX5_draftRowsFrom_70 : decode cX5_draftRowsFrom 70 = .ok (.iload_n 3, 1) := by decide +kernel
theorem dX5_draftRowsFrom_71 : decode cX5_draftRowsFrom 71 = .ok (.invokevirtual 246, 3) := by decide +kernel
theorem dX5_draftRowsFrom_74 : decode cX5_draftRowsFrom 74 = .ok (.aload_n 0, 1) := by decide +kernel
theorem dX5_draftRowsFrom_75 : decode cX5_draftRowsFrom 75 = .ok (.getfield 19, 3) := by decide +kernel
theorem dX5_draftRowsFrom_78 : decode cX5_draftRowsFrom 78 = .ok (.aload_n 0, 1) := by decide +kernel
theorem dX5_draftRowsFrom_79 : decode cX5_draftRowsFrom 79 = .ok (.getfield 26, 3) := by decide +kernel
theorem dX5_draftRowsFrom_82 : decode cX5_draftRowsFrom 82 = .ok (.iload_n 2, 1) := by decide +kernel
theorem dX5_draftRowsFrom_83 : decode cX5_draftRowsFrom 83 = .ok (.invokevirtual 248, 3) := by decide +kernel
theorem dX5_draftRowsFrom_86 : decode cX5_draftRowsFrom 86 = .ok (.i2l, 1) := by decide +kernel
theorem dX5_draftRowsFrom_87 : decode cX5_draftRowsFrom 87 = .ok (.iconst 1, 1) := by decide +kernel
theorem dX5_draftRowsFrom_88 : decode cX5_draftRowsFrom 88 = .ok (.invokevirtual 125, 3) := by decide +kernel
theorem dX5_draftRowsFrom_91 : decode cX5_draftRowsFrom 91 = .ok (.aload_n 0, 1) := by decide +kernel
theorem dX5_draftRowsFrom_92 : decode cX5_draftRowsFrom 92 = .ok (.getfield 19, 3) := by decide +kernel
theorem dX5_draftRowsFrom_95 : decode cX5_draftRowsFrom 95 = .ok (.iload_n 3, 1) := by decide +kernel
theorem dX5_draftRowsFrom_96 : decode cX5_draftRowsFrom 96 = .ok (.i2l, 1) := by decide +kernel
theorem dX5_draftRowsFrom_97 : decode cX5_draftRowsFrom 97 = .ok (.iconst 1, 1) := by decide +kernel
theorem dX5_draftRowsFrom_98 : decode cX5_draftRowsFrom 98 = .ok (.invokevirtual 125, 3) := by decide +kernel
theorem dX5_draftRowsFrom_101 : decode cX5_draftRowsFrom 101 = .ok (.aload_n 0, 1) := by decide +kernel
theorem dX5_draftRowsFrom_102 : decode cX5_draftRowsFrom 102 = .ok (.getfield 19, 3) := by decide +kernel
theorem dX5_draftRowsFrom_105 : decode cX5_draftRowsFrom 105 = .ok (.aload_n 0, 1) := by decide +kernel
theorem dX5_draftRowsFrom_106 : decode cX5_draftRowsFrom 106 = .ok (.getfield 26, 3) := by decide +kernel
theorem dX5_draftRowsFrom_109 : decode cX5_draftRowsFrom 109 = .ok (.iload_n 2, 1) := by decide +kernel
theorem dX5_draftRowsFrom_110 : decode cX5_draftRowsFrom 110 = .ok (.invokevirtual 251, 3) := by decide +kernel
theorem dX5_draftRowsFrom_113 : decode cX5_draftRowsFrom 113 = .ok (.iload_n 3, 1) := by decide +kernel
theorem dX5_draftRowsFrom_114 : decode cX5_draftRowsFrom 114 = .ok (.invokevirtual 125, 3) := by decide +kernel
theorem dX5_draftRowsFrom_117 : decode cX5_draftRowsFrom 117 = .ok (.iinc 2 1, 3) := by decide +kernel
theorem dX5_draftRowsFrom_120 : decode cX5_draftRowsFrom 120 = .ok (.goto (-105), 3) := by decide +kernel
theorem dX5_draftRowsFrom_123 : decode cX5_draftRowsFrom 123 = .ok (.aload_n 0, 1) := by decide +kernel
theorem dX5_draftRowsFrom_124 : decode cX5_draftRowsFrom 124 = .ok (.getfield 19, 3) := by decide +kernel
theorem dX5_draftRowsFrom_127 : decode cX5_draftRowsFrom 127 = .ok (.invokevirtual 129, 3) := by decide +kernel
theorem dX5_draftRowsFrom_130 : decode cX5_draftRowsFrom 130 = .ok (.iload_n 2, 1) := by decide +kernel
theorem dX5_draftRowsFrom_131 : decode cX5_draftRowsFrom 131 = .ok (.ireturn, 1) := by decide +kernel
theorem dX5_writeDraft_0 : decode cX5_writeDraft 0 = .ok (.iconst 0, 1) := by decide +kernel
theorem dX5_writeDraft_1 : decode cX5_writeDraft 1 = .ok (.istore_n 2, 1) := by decide +kernel
theorem dX5_writeDraft_2 : decode cX5_writeDraft 2 = .ok (.iload_n 2, 1) := by decide +kernel
theorem dX5_writeDraft_3 : decode cX5_writeDraft 3 = .ok (.iconst 2, 1) := by decide +kernel
theorem dX5_writeDraft_4 : decode cX5_writeDraft 4 = .ok (.if_icmp .ge 32, 3) := by decide +kernel
theorem dX5_writeDraft_7 : decode cX5_writeDraft 7 = .ok (.aload_n 0, 1) := by decide +kernel
theorem dX5_writeDraft_8 : decode cX5_writeDraft 8 = .ok (.getfield 12, 3) := by decide +kernel
theorem dX5_writeDraft_11 : decode cX5_writeDraft 11 = .ok (.iload_n 2, 1) := by decide +kernel
theorem dX5_writeDraft_12 : decode cX5_writeDraft 12 = .ok (.iload_n 1, 1) := by decide +kernel
theorem dX5_writeDraft_13 : decode cX5_writeDraft 13 = .ok (.aload_n 0, 1) := by decide +kernel
theorem dX5_writeDraft_14 : decode cX5_writeDraft 14 = .ok (.getfield 19, 3) := by decide +kernel
theorem dX5_writeDraft_17 : decode cX5_writeDraft 17 = .ok (.invokevirtual 255, 3) := by decide +kernel
theorem dX5_writeDraft_20 : decode cX5_writeDraft 20 = .ok (.ifCond .ne 10, 3) := by decide +kernel
theorem dX5_writeDraft_23 : decode cX5_writeDraft 23 = .ok (.aload_n 0, 1) := by decide +kernel
theorem dX5_writeDraft_24 : decode cX5_writeDraft 24 = .ok (.iconst 0, 1) := by decide +kernel
theorem dX5_writeDraft_25 : decode cX5_writeDraft 25 = .ok (.putfield 57, 3) := by decide +kernel
theorem dX5_writeDraft_28 : decode cX5_writeDraft 28 = .ok (.iconst 0, 1) := by decide +kernel
theorem dX5_writeDraft_29 : decode cX5_writeDraft 29 = .ok (.ireturn, 1) := by decide +kernel
theorem dX5_writeDraft_30 : decode cX5_writeDraft 30 = .ok (.iinc 2 1, 3) := by decide +kernel
theorem dX5_writeDraft_33 : decode cX5_writeDraft 33 = .ok (.goto (-31), 3) := by decide +kernel
theorem dX5_writeDraft_36 : decode cX5_writeDraft 36 = .ok (.iconst 1, 1) := by decide +kernel
theorem dX5_writeDraft_37 : decode cX5_writeDraft 37 = .ok (.ireturn, 1) := by decide +kernel
theorem dX5_openSector_0 : decode cX5_openSector 0 = .ok (.aload_n 0, 1) := by decide +kernel
theorem dX5_openSector_1 : decode cX5_openSector 1 = .ok (.getfield 12, 3) := by decide +kernel
theorem dX5_openSector_4 : decode cX5_openSector 4 = .ok (.iconst 0, 1) := by decide +kernel
theorem dX5_openSector_5 : decode cX5_openSector 5 = .ok (.iload_n 1, 1) := by decide +kernel
theorem dX5_openSector_6 : decode cX5_openSector 6 = .ok (.invokevirtual 276, 3) := by decide +kernel
theorem dX5_openSector_9 : decode cX5_openSector 9 = .ok (.istore_n 2, 1) := by decide +kernel
theorem dX5_openSector_10 : decode cX5_openSector 10 = .ok (.aload_n 0, 1) := by decide +kernel
theorem dX5_openSector_11 : decode cX5_openSector 11 = .ok (.getfield 12, 3) := by decide +kernel
theorem dX5_openSector_14 : decode cX5_openSector 14 = .ok (.iconst 1, 1) := by decide +kernel
theorem dX5_openSector_15 : decode cX5_openSector 15 = .ok (.iload_n 1, 1) := by decide +kernel
theorem dX5_openSector_16 : decode cX5_openSector 16 = .ok (.invokevirtual 276, 3) := by decide +kernel
theorem dX5_openSector_19 : decode cX5_openSector 19 = .ok (.istore_n 3, 1) := by decide +kernel
theorem dX5_openSector_20 : decode cX5_openSector 20 = .ok (.iload_n 2, 1) := by decide +kernel
theorem dX5_openSector_21 : decode cX5_openSector 21 = .ok (.ifCond .ne 9, 3) := by decide +kernel
theorem dX5_openSector_24 : decode cX5_openSector 24 = .ok (.iload_n 3, 1) := by decide +kernel
theorem dX5_openSector_25 : decode cX5_openSector 25 = .ok (.ifCond .ne 5, 3) := by decide +kernel
theorem dX5_openSector_28 : decode cX5_openSector 28 = .ok (.iconst (-1), 1) := by decide +kernel
theorem dX5_openSector_29 : decode cX5_openSector 29 = .ok (.ireturn, 1) := by decide +kernel
theorem dX5_openSector_30 : decode cX5_openSector 30 = .ok (.iload_n 2, 1) := by decide +kernel
theorem dX5_openSector_31 : decode cX5_openSector 31 = .ok (.ifCond .eq 7, 3) := by decide +kernel
theorem dX5_openSector_34 : decode cX5_openSector 34 = .ok (.iconst 0, 1) := by decide +kernel
theorem dX5_openSector_35 : decode cX5_openSector 35 = .ok (.goto 4, 3) := by decide +kernel
theorem dX5_openSector_38 : decode cX5_openSector 38 = .ok (.iconst 1, 1) := by decide +kernel
theorem dX5_openSector_39 : decode cX5_openSector 39 = .ok (.istore 4, 2) := by decide +kernel
theorem dX5_openSector_41 : decode cX5_openSector 41 = .ok (.iload_n 2, 1) := by decide +kernel
theorem dX5_openSector_42 : decode cX5_openSector 42 = .ok (.iload_n 3, 1) := by decide +kernel
theorem dX5_openSector_43 : decode cX5_openSector 43 = .ok (.if_icmp .eq 23, 3) := by decide +kernel
theorem dX5_openSector_46 : decode cX5_openSector 46 = .ok (.aload_n 0, 1) := by decide +kernel
theorem dX5_openSector_47 : decode cX5_openSector 47 = .ok (.getfield 12, 3) := by decide +kernel
theorem dX5_openSector_50 : decode cX5_openSector 50 = .ok (.iload 4, 2) := by decide +kernel
theorem dX5_openSector_52 : decode cX5_openSector 52 = .ok (.iload_n 1, 1) := by decide +kernel
theorem dX5_openSector_53 : decode cX5_openSector 53 = .ok (.invokevirtual 280, 3) := by decide +kernel
theorem dX5_openSector_56 : decode cX5_openSector 56 = .ok (.aload_n 0, 1) := by decide +kernel
theorem dX5_openSector_57 : decode cX5_openSector 57 = .ok (.dup, 1) := by decide +kernel
theorem dX5_openSector_58 : decode cX5_openSector 58 = .ok (.getfield 78, 3) := by decide +kernel
theorem dX5_openSector_61 : decode cX5_openSector 61 = .ok (.iconst 1, 1) := by decide +kernel
theorem dX5_openSector_62 : decode cX5_openSector 62 = .ok (.iadd, 1) := by decide +kernel
theorem dX5_openSector_63 : decode cX5_openSector 63 = .ok (.putfield 78, 3) := by decide +kernel
theorem dX5_openSector_66 : decode cX5_openSector 66 = .ok (.iload 4, 2) := by decide +kernel
theorem dX5_openSector_68 : decode cX5_openSector 68 = .ok (.ireturn, 1) := by decide +kernel
theorem dX5_findRowsOf_0 : decode cX5_findRowsOf 0 = .ok (.bipush 6, 2) := by decide +kernel
theorem dX5_findRowsOf_2 : decode cX5_findRowsOf 2 = .ok (.aload_n 0, 1) := by decide +kernel
theorem dX5_findRowsOf_3 : decode cX5_findRowsOf 3 = .ok (.getfield 12, 3) := by decide +kernel
theorem dX5_findRowsOf_6 : decode cX5_findRowsOf 6 = .ok (.iload_n 1, 1) := by decide +kernel
theorem dX5_findRowsOf_7 : decode cX5_findRowsOf 7 = .ok (.iload_n 2, 1) := by decide +kernel
theorem dX5_findRowsOf_8 : decode cX5_findRowsOf 8 = .ok (.invokevirtual 265, 3) := by decide +kernel
theorem dX5_findRowsOf_11 : decode cX5_findRowsOf 11 = .ok (.iadd, 1) := by decide +kernel
theorem dX5_findRowsOf_12 : decode cX5_findRowsOf 12 = .ok (.istore_n 3, 1) := by decide +kernel
theorem dX5_findRowsOf_13 : decode cX5_findRowsOf 13 = .ok (.bipush 6, 2) := by decide +kernel
theorem dX5_findRowsOf_15 : decode cX5_findRowsOf 15 = .ok (.istore 4, 2) := by decide +kernel
theorem dX5_findRowsOf_17 : decode cX5_findRowsOf 17 = .ok (.iconst 0, 1) := by decide +kernel
theorem dX5_findRowsOf_18 : decode cX5_findRowsOf 18 = .ok (.istore 5, 2) := by decide +kernel
theorem dX5_findRowsOf_20 : decode cX5_findRowsOf 20 = .ok (.iload 5, 2) := by decide +kernel
theorem dX5_findRowsOf_22 : decode cX5_findRowsOf 22 = .ok (.sipush 167, 3) := by decide +kernel
theorem dX5_findRowsOf_25 : decode cX5_findRowsOf 25 = .ok (.if_icmp .ge 51, 3) := by decide +kernel
theorem dX5_findRowsOf_28 : decode cX5_findRowsOf 28 = .ok (.iload 4, 2) := by decide +kernel
theorem dX5_findRowsOf_30 : decode cX5_findRowsOf 30 = .ok (.iload_n 3, 1) := by decide +kernel
theorem dX5_findRowsOf_31 : decode cX5_findRowsOf 31 = .ok (.if_icmp .ge 45, 3) := by decide +kernel
theorem dX5_findRowsOf_34 : decode cX5_findRowsOf 34 = .ok (.aload_n 0, 1) := by decide +kernel
theorem dX5_findRowsOf_35 : decode cX5_findRowsOf 35 = .ok (.getfield 12, 3) := by decide +kernel
theorem dX5_findRowsOf_38 : decode cX5_findRowsOf 38 = .ok (.iload_n 1, 1) := by decide +kernel
theorem dX5_findRowsOf_39 : decode cX5_findRowsOf 39 = .ok (.iload_n 2, 1) := by decide +kernel
theorem dX5_findRowsOf_40 : decode cX5_findRowsOf 40 = .ok (.iload 4, 2) := by decide +kernel
theorem dX5_findRowsOf_42 : decode cX5_findRowsOf 42 = .ok (.iconst 1, 1) := by decide +kernel
theorem dX5_findRowsOf_43 : decode cX5_findRowsOf 43 = .ok (.iadd, 1) := by decide +kernel
theorem dX5_findRowsOf_44 : decode cX5_findRowsOf 44 = .ok (.invokevirtual 185, 3) := by decide +kernel
theorem dX5_findRowsOf_47 : decode cX5_findRowsOf 47 = .ok (.istore 6, 2) := by decide +kernel
theorem dX5_findRowsOf_49 : decode cX5_findRowsOf 49 = .ok (.aload_n 0, 1) := by decide +kernel
theorem dX5_findRowsOf_50 : decode cX5_findRowsOf 50 = .ok (.getfield 33, 3) := by decide +kernel
theorem dX5_findRowsOf_53 : decode cX5_findRowsOf 53 = .ok (.iload_n 2, 1) := by decide +kernel
theorem dX5_findRowsOf_54 : decode cX5_findRowsOf 54 = .ok (.iload 4, 2) := by decide +kernel
theorem dX5_findRowsOf_56 : decode cX5_findRowsOf 56 = .ok (.iload 6, 2) := by decide +kernel
theorem dX5_findRowsOf_58 : decode cX5_findRowsOf 58 = .ok (.invokevirtual 246, 3) := by decide +kernel
theorem dX5_findRowsOf_61 : decode cX5_findRowsOf 61 = .ok (.iload 4, 2) := by decide +kernel
theorem dX5_findRowsOf_63 : decode cX5_findRowsOf 63 = .ok (.iconst 2, 1) := by decide +kernel
theorem dX5_findRowsOf_64 : decode cX5_findRowsOf 64 = .ok (.iload 6, 2) := by decide +kernel
theorem dX5_findRowsOf_66 : decode cX5_findRowsOf 66 = .ok (.iadd, 1) := by decide +kernel
theorem dX5_findRowsOf_67 : decode cX5_findRowsOf 67 = .ok (.iadd, 1) := by decide +kernel
theorem dX5_findRowsOf_68 : decode cX5_findRowsOf 68 = .ok (.istore 4, 2) := by decide +kernel
theorem dX5_findRowsOf_70 : decode cX5_findRowsOf 70 = .ok (.iinc 5 1, 3) := by decide +kernel
theorem dX5_findRowsOf_73 : decode cX5_findRowsOf 73 = .ok (.goto (-53), 3) := by decide +kernel
theorem dX5_findRowsOf_76 : decode cX5_findRowsOf 76 = .ok (.return_, 1) := by decide +kernel
theorem dX5_findRows_0 : decode cX5_findRows 0 = .ok (.aload_n 0, 1) := by decide +kernel
theorem dX5_findRows_1 : decode cX5_findRows 1 = .ok (.getfield 33, 3) := by decide +kernel
theorem dX5_findRows_4 : decode cX5_findRows 4 = .ok (.invokevirtual 55, 3) := by decide +kernel
theorem dX5_findRows_7 : decode cX5_findRows 7 = .ok (.aload_n 0, 1) := by decide +kernel
theorem dX5_findRows_8 : decode cX5_findRows 8 = .ok (.iconst 0, 1) := by decide +kernel
theorem dX5_findRows_9 : decode cX5_findRows 9 = .ok (.putfield 65, 3) := by decide +kernel
theorem dX5_findRows_12 : decode cX5_findRows 12 = .ok (.iconst 0, 1) := by decide +kernel
theorem dX5_findRows_13 : decode cX5_findRows 13 = .ok (.istore_n 1, 1) := by decide +kernel
theorem dX5_findRows_14 : decode cX5_findRows 14 = .ok (.iload_n 1, 1) := by decide +kernel
theorem dX5_findRows_15 : decode cX5_findRows 15 = .ok (.aload_n 0, 1) := by decide +kernel
theorem dX5_findRows_16 : decode cX5_findRows 16 = .ok (.getfield 12, 3) := by decide +kernel
theorem dX5_findRows_19 : decode cX5_findRows 19 = .ok (.invokevirtual 236, 3) := by decide +kernel
theorem dX5_findRows_22 : decode cX5_findRows 22 = .ok (.if_icmp .ge 37, 3) := by decide +kernel
theorem dX5_findRows_25 : decode cX5_findRows 25 = .ok (.aload_n 0, 1) := by decide +kernel
theorem dX5_findRows_26 : decode cX5_findRows 26 = .ok (.iload_n 1, 1) := by decide +kernel
theorem dX5_findRows_27 : decode cX5_findRows 27 = .ok (.invokevirtual 259, 3) := by decide +kernel
theorem dX5_findRows_30 : decode cX5_findRows 30 = .ok (.istore_n 2, 1) := by decide +kernel
theorem dX5_findRows_31 : decode cX5_findRows 31 = .ok (.iload_n 2, 1) := by decide +kernel
theorem dX5_findRows_32 : decode cX5_findRows 32 = .ok (.iconst (-1), 1) := by decide +kernel
theorem dX5_findRows_33 : decode cX5_findRows 33 = .ok (.if_icmp .ne 4, 3) := by decide +kernel
theorem dX5_findRows_36 : decode cX5_findRows 36 = .ok (.return_, 1) := by decide +kernel
theorem dX5_findRows_37 : decode cX5_findRows 37 = .ok (.aload_n 0, 1) := by decide +kernel
theorem dX5_findRows_38 : decode cX5_findRows 38 = .ok (.iload_n 2, 1) := by decide +kernel
theorem dX5_findRows_39 : decode cX5_findRows 39 = .ok (.iload_n 1, 1) := by decide +kernel
theorem dX5_findRows_40 : decode cX5_findRows 40 = .ok (.invokevirtual 262, 3) := by decide +kernel
theorem dX5_findRows_43 : decode cX5_findRows 43 = .ok (.aload_n 0, 1) := by decide +kernel
theorem dX5_findRows_44 : decode cX5_findRows 44 = .ok (.dup, 1) := by decide +kernel
theorem dX5_findRows_45 : decode cX5_findRows 45 = .ok (.getfield 65, 3) := by decide +kernel
theorem dX5_findRows_48 : decode cX5_findRows 48 = .ok (.iconst 1, 1) := by decide +kernel
theorem dX5_findRows_49 : decode cX5_findRows 49 = .ok (.iadd, 1) := by decide +kernel
theorem dX5_findRows_50 : decode cX5_findRows 50 = .ok (.putfield 65, 3) := by decide +kernel
theorem dX5_findRows_53 : decode cX5_findRows 53 = .ok (.iinc 1 1, 3) := by decide +kernel
theorem dX5_findRows_56 : decode cX5_findRows 56 = .ok (.goto (-42), 3) := by decide +kernel
theorem dX5_findRows_59 : decode cX5_findRows 59 = .ok (.return_, 1) := by decide +kernel
theorem dX5_findState_0 : decode cX5_findState 0 = .ok (.iconst 0, 1) := by decide +kernel
theorem dX5_findState_1 : decode cX5_findState 1 = .ok (.istore_n 1, 1) := by decide +kernel
theorem dX5_findState_2 : decode cX5_findState 2 = .ok (.aload_n 0, 1) := by decide +kernel
theorem dX5_findState_3 : decode cX5_findState 3 = .ok (.lconst 0, 1) := by decide +kernel
theorem dX5_findState_4 : decode cX5_findState 4 = .ok (.putfield 68, 3) := by decide +kernel
theorem dX5_findState_7 : decode cX5_findState 7 = .ok (.aload_n 0, 1) := by decide +kernel
theorem dX5_findState_8 : decode cX5_findState 8 = .ok (.iconst 0, 1) := by decide +kernel
theorem dX5_findState_9 : decode cX5_findState 9 = .ok (.putfield 72, 3) := by decide +kernel
theorem dX5_findState_12 : decode cX5_findState 12 = .ok (.aload_n 0, 1) := by decide +kernel
theorem dX5_findState_13 : decode cX5_findState 13 = .ok (.getfield 12, 3) := by decide +kernel
theorem dX5_findState_16 : decode cX5_findState 16 = .ok (.invokevirtual 236, 3) := by decide +kernel
theorem dX5_findState_19 : decode cX5_findState 19 = .ok (.istore_n 2, 1) := by decide +kernel
theorem dX5_findState_20 : decode cX5_findState 20 = .ok (.iload_n 2, 1) := by decide +kernel
theorem dX5_findState_21 : decode cX5_findState 21 = .ok (.aload_n 0, 1) := by decide +kernel
theorem dX5_findState_22 : decode cX5_findState 22 = .ok (.getfield 12, 3) := by decide +kernel
theorem dX5_findState_25 : decode cX5_findState 25 = .ok (.invokevirtual 158, 3) := by decide +kernel
theorem dX5_findState_28 : decode cX5_findState 28 = .ok (.if_icmp .ge 68, 3) := by decide +kernel
theorem dX5_findState_31 : decode cX5_findState 31 = .ok (.aload_n 0, 1) := by decide +kernel
theorem dX5_findState_32 : decode cX5_findState 32 = .ok (.iload_n 2, 1) := by decide +kernel
theorem dX5_findState_33 : decode cX5_findState 33 = .ok (.invokevirtual 259, 3) := by decide +kernel
theorem dX5_findState_36 : decode cX5_findState 36 = .ok (.istore_n 3, 1) := by decide +kernel
theorem dX5_findState_37 : decode cX5_findState 37 = .ok (.iload_n 3, 1) := by decide +kernel
theorem dX5_findState_38 : decode cX5_findState 38 = .ok (.iconst (-1), 1) := by decide +kernel
theorem dX5_findState_39 : decode cX5_findState 39 = .ok (.if_icmp .ne 6, 3) := by decide +kernel
theorem dX5_findState_42 : decode cX5_findState 42 = .ok (.goto 48, 3) := by decide +kernel
theorem dX5_findState_45 : decode cX5_findState 45 = .ok (.aload_n 0, 1) := by decide +kernel
theorem dX5_findState_46 : decode cX5_findState 46 = .ok (.getfield 12, 3) := by decide +kernel
theorem dX5_findState_49 : decode cX5_findState 49 = .ok (.iload_n 3, 1) := by decide +kernel
theorem dX5_findState_50 : decode cX5_findState 50 = .ok (.iload_n 2, 1) := by decide +kernel
theorem dX5_findState_51 : decode cX5_findState 51 = .ok (.invokevirtual 269, 3) := by decide +kernel
theorem dX5_findState_54 : decode cX5_findState 54 = .ok (.istore 4, 2) := by decide +kernel
theorem dX5_findState_56 : decode cX5_findState 56 = .ok (.iload_n 1, 1) := by decide +kernel
theorem dX5_findState_57 : decode cX5_findState 57 = .ok (.ifCond .eq 12, 3) := by decide +kernel
theorem dX5_findState_60 : decode cX5_findState 60 = .ok (.iload 4, 2) := by decide +kernel
theorem dX5_findState_62 : decode cX5_findState 62 = .ok (.aload_n 0, 1) := by decide +kernel
theorem dX5_findState_63 : decode cX5_findState 63 = .ok (.getfield 72, 3) := by decide +kernel
theorem dX5_findState_66 : decode cX5_findState 66 = .ok (.if_icmp .le 24, 3) := by decide +kernel
theorem dX5_findState_69 : decode cX5_findState 69 = .ok (.iconst 1, 1) := by decide +kernel
theorem dX5_findState_70 : decode cX5_findState 70 = .ok (.istore_n 1, 1) := by decide +kernel
theorem dX5_findState_71 : decode cX5_findState 71 = .ok (.aload_n 0, 1) := by decide +kernel
theorem dX5_findState_72 : decode cX5_findState 72 = .ok (.iload 4, 2) := by decide +kernel
theorem dX5_findState_74 : decode cX5_findState 74 = .ok (.putfield 72, 3) := by decide +kernel
theorem dX5_findState_77 : decode cX5_findState 77 = .ok (.aload_n 0, 1) := by decide +kernel
theorem dX5_findState_78 : decode cX5_findState 78 = .ok (.aload_n 0, 1) := by decide +kernel
theorem dX5_findState_79 : decode cX5_findState 79 = .ok (.getfield 12, 3) := by decide +kernel
theorem dX5_findState_82 : decode cX5_findState 82 = .ok (.iload_n 3, 1) := by decide +kernel
theorem dX5_findState_83 : decode cX5_findState 83 = .ok (.iload_n 2, 1) := by decide +kernel
theorem dX5_findState_84 : decode cX5_findState 84 = .ok (.invokevirtual 272, 3) := by decide +kernel
theorem dX5_findState_87 : decode cX5_findState 87 = .ok (.putfield 68, 3) := by decide +kernel
theorem dX5_findState_90 : decode cX5_findState 90 = .ok (.iinc 2 1, 3) := by decide +kernel
theorem dX5_findState_93 : decode cX5_findState 93 = .ok (.goto (-73), 3) := by decide +kernel
theorem dX5_findState_96 : decode cX5_findState 96 = .ok (.return_, 1) := by decide +kernel
theorem dX5_sumWithRow_0 : decode cX5_sumWithRow 0 = .ok (.aload_n 0, 1) := by decide +kernel
theorem dX5_sumWithRow_1 : decode cX5_sumWithRow 1 = .ok (.getfield 33, 3) := by decide +kernel
theorem dX5_sumWithRow_4 : decode cX5_sumWithRow 4 = .ok (.iload_n 2, 1) := by decide +kernel
theorem dX5_sumWithRow_5 : decode cX5_sumWithRow 5 = .ok (.invokevirtual 170, 3) := by decide +kernel
theorem dX5_sumWithRow_8 : decode cX5_sumWithRow 8 = .ok (.istore 4, 2) := by decide +kernel
theorem dX5_sumWithRow_10 : decode cX5_sumWithRow 10 = .ok (.aload_n 0, 1) := by decide +kernel
theorem dX5_sumWithRow_11 : decode cX5_sumWithRow 11 = .ok (.getfield 33, 3) := by decide +kernel
theorem dX5_sumWithRow_14 : decode cX5_sumWithRow 14 = .ok (.iload_n 2, 1) := by decide +kernel
theorem dX5_sumWithRow_15 : decode cX5_sumWithRow 15 = .ok (.invokevirtual 182, 3) := by decide +kernel
theorem dX5_sumWithRow_18 : decode cX5_sumWithRow 18 = .ok (.istore 5, 2) := by decide +kernel
theorem dX5_sumWithRow_20 : decode cX5_sumWithRow 20 = .ok (.aload_n 0, 1) := by decide +kernel
theorem dX5_sumWithRow_21 : decode cX5_sumWithRow 21 = .ok (.getfield 33, 3) := by decide +kernel
theorem dX5_sumWithRow_24 : decode cX5_sumWithRow 24 = .ok (.iload_n 2, 1) := by decide +kernel
theorem dX5_sumWithRow_25 : decode cX5_sumWithRow 25 = .ok (.invokevirtual 179, 3) := by decide +kernel
theorem dX5_sumWithRow_28 : decode cX5_sumWithRow 28 = .ok (.istore 6, 2) := by decide +kernel
theorem dX5_sumWithRow_30 : decode cX5_sumWithRow 30 = .ok (.iload_n 1, 1) := by decide +kernel
theorem dX5_sumWithRow_31 : decode cX5_sumWithRow 31 = .ok (.aload_n 0, 1) := by decide +kernel
theorem dX5_sumWithRow_32 : decode cX5_sumWithRow 32 = .ok (.getfield 12, 3) := by decide +kernel
theorem dX5_sumWithRow_35 : decode cX5_sumWithRow 35 = .ok (.iload_n 3, 1) := by decide +kernel
theorem dX5_sumWithRow_36 : decode cX5_sumWithRow 36 = .ok (.iload 4, 2) := by decide +kernel
theorem dX5_sumWithRow_38 : decode cX5_sumWithRow 38 = .ok (.iload 5, 2) := by decide +kernel
theorem dX5_sumWithRow_40 : decode cX5_sumWithRow 40 = .ok (.invokevirtual 185, 3) := by decide +kernel
theorem dX5_sumWithRow_43 : decode cX5_sumWithRow 43 = .ok (.invokestatic 283, 3) := by decide +kernel
theorem dX5_sumWithRow_46 : decode cX5_sumWithRow 46 = .ok (.istore 7, 2) := by decide +kernel
theorem dX5_sumWithRow_48 : decode cX5_sumWithRow 48 = .ok (.iconst 0, 1) := by decide +kernel
theorem dX5_sumWithRow_49 : decode cX5_sumWithRow 49 = .ok (.istore 8, 2) := by decide +kernel
theorem dX5_sumWithRow_51 : decode cX5_sumWithRow 51 = .ok (.iload 8, 2) := by decide +kernel
theorem dX5_sumWithRow_53 : decode cX5_sumWithRow 53 = .ok (.iload 6, 2) := by decide +kernel
theorem dX5_sumWithRow_55 : decode cX5_sumWithRow 55 = .ok (.if_icmp .ge 33, 3) := by decide +kernel
theorem dX5_sumWithRow_58 : decode cX5_sumWithRow 58 = .ok (.iload 7, 2) := by decide +kernel
theorem dX5_sumWithRow_60 : decode cX5_sumWithRow 60 = .ok (.aload_n 0, 1) := by decide +kernel
theorem dX5_sumWithRow_61 : decode cX5_sumWithRow 61 = .ok (.getfield 12, 3) := by decide +kernel
theorem dX5_sumWithRow_64 : decode cX5_sumWithRow 64 = .ok (.iload_n 3, 1) := by decide +kernel
theorem dX5_sumWithRow_65 : decode cX5_sumWithRow 65 = .ok (.iload 4, 2) := by decide +kernel
theorem dX5_sumWithRow_67 : decode cX5_sumWithRow 67 = .ok (.iload 5, 2) := by decide +kernel
theorem dX5_sumWithRow_69 : decode cX5_sumWithRow 69 = .ok (.iconst 2, 1) := by decide +kernel
theorem dX5_sumWithRow_70 : decode cX5_sumWithRow 70 = .ok (.iadd, 1) := by decide +kernel
theorem dX5_sumWithRow_71 : decode cX5_sumWithRow 71 = .ok (.iload 8, 2) := by decide +kernel
theorem dX5_sumWithRow_73 : decode cX5_sumWithRow 73 = .ok (.iadd, 1) := by decide +kernel
theorem dX5_sumWithRow_74 : decode cX5_sumWithRow 74 = .ok (.invokevirtual 185, 3) := by decide +kernel
theorem dX5_sumWithRow_77 : decode cX5_sumWithRow 77 = .ok (.invokestatic 283, 3) := by decide +kernel
theorem dX5_sumWithRow_80 : decode cX5_sumWithRow 80 = .ok (.istore 7, 2) := by decide +kernel
theorem dX5_sumWithRow_82 : decode cX5_sumWithRow 82 = .ok (.iinc 8 1, 3) := by decide +kernel
theorem dX5_sumWithRow_85 : decode cX5_sumWithRow 85 = .ok (.goto (-34), 3) := by decide +kernel
theorem dX5_sumWithRow_88 : decode cX5_sumWithRow 88 = .ok (.iload 7, 2) := by decide +kernel
theorem dX5_sumWithRow_90 : decode cX5_sumWithRow 90 = .ok (.ireturn, 1) := by decide +kernel
