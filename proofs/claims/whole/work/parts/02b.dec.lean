theorem dX2_burdenOf_63 : decode cX2_burdenOf 63 = .ok (.if_icmp .ge 35, 3) := by decide +kernel
theorem dX2_burdenOf_66 : decode cX2_burdenOf 66 = .ok (.iload 7, 2) := by decide +kernel
theorem dX2_burdenOf_68 : decode cX2_burdenOf 68 = .ok (.aload_n 0, 1) := by decide +kernel
theorem dX2_burdenOf_69 : decode cX2_burdenOf 69 = .ok (.getfield 18, 3) := by decide +kernel
theorem dX2_burdenOf_72 : decode cX2_burdenOf 72 = .ok (.iload 8, 2) := by decide +kernel
theorem dX2_burdenOf_74 : decode cX2_burdenOf 74 = .ok (.bipush 16, 2) := by decide +kernel
theorem dX2_burdenOf_76 : decode cX2_burdenOf 76 = .ok (.imul, 1) := by decide +kernel
theorem dX2_burdenOf_77 : decode cX2_burdenOf 77 = .ok (.iload 6, 2) := by decide +kernel
theorem dX2_burdenOf_79 : decode cX2_burdenOf 79 = .ok (.iconst 4, 1) := by decide +kernel
theorem dX2_burdenOf_80 : decode cX2_burdenOf 80 = .ok (.iload 8, 2) := by decide +kernel
theorem dX2_burdenOf_82 : decode cX2_burdenOf 82 = .ok (.imul, 1) := by decide +kernel
theorem dX2_burdenOf_83 : decode cX2_burdenOf 83 = .ok (.iushr, 1) := by decide +kernel
theorem dX2_burdenOf_84 : decode cX2_burdenOf 84 = .ok (.bipush 15, 2) := by decide +kernel
theorem dX2_burdenOf_86 : decode cX2_burdenOf 86 = .ok (.iand, 1) := by decide +kernel
theorem dX2_burdenOf_87 : decode cX2_burdenOf 87 = .ok (.iadd, 1) := by decide +kernel
theorem dX2_burdenOf_88 : decode cX2_burdenOf 88 = .ok (.iaload, 1) := by decide +kernel
theorem dX2_burdenOf_89 : decode cX2_burdenOf 89 = .ok (.iadd, 1) := by decide +kernel
theorem dX2_burdenOf_90 : decode cX2_burdenOf 90 = .ok (.istore 7, 2) := by decide +kernel
theorem dX2_burdenOf_92 : decode cX2_burdenOf 92 = .ok (.iinc 8 1, 3) := by decide +kernel
theorem dX2_burdenOf_95 : decode cX2_burdenOf 95 = .ok (.goto (-35), 3) := by decide +kernel
theorem dX2_burdenOf_98 : decode cX2_burdenOf 98 = .ok (.iload 7, 2) := by decide +kernel
theorem dX2_burdenOf_100 : decode cX2_burdenOf 100 = .ok (.ireturn, 1) := by decide +kernel
theorem dX2_findShift_0 : decode cX2_findShift 0 = .ok (.aload_n 0, 1) := by decide +kernel
theorem dX2_findShift_1 : decode cX2_findShift 1 = .ok (.aload_n 0, 1) := by decide +kernel
theorem dX2_findShift_2 : decode cX2_findShift 2 = .ok (.aload_n 1, 1) := by decide +kernel
theorem dX2_findShift_3 : decode cX2_findShift 3 = .ok (.iload_n 2, 1) := by decide +kernel
theorem dX2_findShift_4 : decode cX2_findShift 4 = .ok (.invokevirtual 108, 3) := by decide +kernel
theorem dX2_findShift_7 : decode cX2_findShift 7 = .ok (.getfield 112, 3) := by decide +kernel
theorem dX2_findShift_10 : decode cX2_findShift 10 = .ok (.aload_n 1, 1) := by decide +kernel
theorem dX2_findShift_11 : decode cX2_findShift 11 = .ok (.getfield 112, 3) := by decide +kernel
theorem dX2_findShift_14 : decode cX2_findShift 14 = .ok (.isub, 1) := by decide +kernel
theorem dX2_findShift_15 : decode cX2_findShift 15 = .ok (.putfield 68, 3) := by decide +kernel
theorem dX2_findShift_18 : decode cX2_findShift 18 = .ok (.ldc 49, 2) := by decide +kernel
theorem dX2_findShift_20 : decode cX2_findShift 20 = .ok (.istore_n 3, 1) := by decide +kernel
theorem dX2_findShift_21 : decode cX2_findShift 21 = .ok (.iconst 0, 1) := by decide +kernel
theorem dX2_findShift_22 : decode cX2_findShift 22 = .ok (.istore 4, 2) := by decide +kernel
theorem dX2_findShift_24 : decode cX2_findShift 24 = .ok (.iload 4, 2) := by decide +kernel
theorem dX2_findShift_26 : decode cX2_findShift 26 = .ok (.aload_n 1, 1) := by decide +kernel
theorem dX2_findShift_27 : decode cX2_findShift 27 = .ok (.getfield 115, 3) := by decide +kernel
theorem dX2_findShift_30 : decode cX2_findShift 30 = .ok (.if_icmp .ge 63, 3) := by decide +kernel
theorem dX2_findShift_33 : decode cX2_findShift 33 = .ok (.iconst 0, 1) := by decide +kernel
theorem dX2_findShift_34 : decode cX2_findShift 34 = .ok (.istore 5, 2) := by decide +kernel
theorem dX2_findShift_36 : decode cX2_findShift 36 = .ok (.iload 5, 2) := by decide +kernel
theorem dX2_findShift_38 : decode cX2_findShift 38 = .ok (.aload_n 1, 1) := by decide +kernel
theorem dX2_findShift_39 : decode cX2_findShift 39 = .ok (.getfield 57, 3) := by decide +kernel
theorem dX2_findShift_42 : decode cX2_findShift 42 = .ok (.if_icmp .ge 45, 3) := by decide +kernel
theorem dX2_findShift_45 : decode cX2_findShift 45 = .ok (.aload_n 0, 1) := by decide +kernel
theorem dX2_findShift_46 : decode cX2_findShift 46 = .ok (.aload_n 1, 1) := by decide +kernel
theorem dX2_findShift_47 : decode cX2_findShift 47 = .ok (.iload 4, 2) := by decide +kernel
theorem dX2_findShift_49 : decode cX2_findShift 49 = .ok (.iload 5, 2) := by decide +kernel
theorem dX2_findShift_51 : decode cX2_findShift 51 = .ok (.iload_n 2, 1) := by decide +kernel
theorem dX2_findShift_52 : decode cX2_findShift 52 = .ok (.invokevirtual 118, 3) := by decide +kernel
theorem dX2_findShift_55 : decode cX2_findShift 55 = .ok (.istore 6, 2) := by decide +kernel
theorem dX2_findShift_57 : decode cX2_findShift 57 = .ok (.iload 6, 2) := by decide +kernel
theorem dX2_findShift_59 : decode cX2_findShift 59 = .ok (.aload_n 0, 1) := by decide +kernel
theorem dX2_findShift_60 : decode cX2_findShift 60 = .ok (.getfield 68, 3) := by decide +kernel
theorem dX2_findShift_63 : decode cX2_findShift 63 = .ok (.if_icmp .ge 18, 3) := by decide +kernel
theorem dX2_findShift_66 : decode cX2_findShift 66 = .ok (.aload_n 0, 1) := by decide +kernel
theorem dX2_findShift_67 : decode cX2_findShift 67 = .ok (.iload 6, 2) := by decide +kernel
theorem dX2_findShift_69 : decode cX2_findShift 69 = .ok (.putfield 68, 3) := by decide +kernel
theorem dX2_findShift_72 : decode cX2_findShift 72 = .ok (.bipush 10, 2) := by decide +kernel
theorem dX2_findShift_74 : decode cX2_findShift 74 = .ok (.iload 4, 2) := by decide +kernel
theorem dX2_findShift_76 : decode cX2_findShift 76 = .ok (.imul, 1) := by decide +kernel
theorem dX2_findShift_77 : decode cX2_findShift 77 = .ok (.iload 5, 2) := by decide +kernel
theorem dX2_findShift_79 : decode cX2_findShift 79 = .ok (.iadd, 1) := by decide +kernel
theorem dX2_findShift_80 : decode cX2_findShift 80 = .ok (.istore_n 3, 1) := by decide +kernel
theorem dX2_findShift_81 : decode cX2_findShift 81 = .ok (.iinc 5 1, 3) := by decide +kernel
theorem dX2_findShift_84 : decode cX2_findShift 84 = .ok (.goto (-48), 3) := by decide +kernel
theorem dX2_findShift_87 : decode cX2_findShift 87 = .ok (.iinc 4 1, 3) := by decide +kernel
theorem dX2_findShift_90 : decode cX2_findShift 90 = .ok (.goto (-66), 3) := by decide +kernel
theorem dX2_findShift_93 : decode cX2_findShift 93 = .ok (.iload_n 3, 1) := by decide +kernel
theorem dX2_findShift_94 : decode cX2_findShift 94 = .ok (.ireturn, 1) := by decide +kernel
theorem dX2_robbedIfMoved_0 : decode cX2_robbedIfMoved 0 = .ok (.aload_n 0, 1) := by decide +kernel
theorem dX2_robbedIfMoved_1 : decode cX2_robbedIfMoved 1 = .ok (.getfield 14, 3) := by decide +kernel
theorem dX2_robbedIfMoved_4 : decode cX2_robbedIfMoved 4 = .ok (.aload_n 1, 1) := by decide +kernel
theorem dX2_robbedIfMoved_5 : decode cX2_robbedIfMoved 5 = .ok (.invokevirtual 34, 3) := by decide +kernel
theorem dX2_robbedIfMoved_8 : decode cX2_robbedIfMoved 8 = .ok (.aload_n 0, 1) := by decide +kernel
theorem dX2_robbedIfMoved_9 : decode cX2_robbedIfMoved 9 = .ok (.getfield 14, 3) := by decide +kernel
theorem dX2_robbedIfMoved_12 : decode cX2_robbedIfMoved 12 = .ok (.getfield 122, 3) := by decide +kernel
theorem dX2_robbedIfMoved_15 : decode cX2_robbedIfMoved 15 = .ok (.iload_n 2, 1) := by decide +kernel
theorem dX2_robbedIfMoved_16 : decode cX2_robbedIfMoved 16 = .ok (.iload_n 3, 1) := by decide +kernel
theorem dX2_robbedIfMoved_17 : decode cX2_robbedIfMoved 17 = .ok (.iastore, 1) := by decide +kernel
theorem dX2_robbedIfMoved_18 : decode cX2_robbedIfMoved 18 = .ok (.aload_n 0, 1) := by decide +kernel
theorem dX2_robbedIfMoved_19 : decode cX2_robbedIfMoved 19 = .ok (.getfield 14, 3) := by decide +kernel
theorem dX2_robbedIfMoved_22 : decode cX2_robbedIfMoved 22 = .ok (.iload 4, 2) := by decide +kernel
theorem dX2_robbedIfMoved_24 : decode cX2_robbedIfMoved 24 = .ok (.invokevirtual 38, 3) := by decide +kernel
theorem dX2_robbedIfMoved_27 : decode cX2_robbedIfMoved 27 = .ok (.aload_n 0, 1) := by decide +kernel
theorem dX2_robbedIfMoved_28 : decode cX2_robbedIfMoved 28 = .ok (.getfield 14, 3) := by decide +kernel
theorem dX2_robbedIfMoved_31 : decode cX2_robbedIfMoved 31 = .ok (.getfield 112, 3) := by decide +kernel
theorem dX2_robbedIfMoved_34 : decode cX2_robbedIfMoved 34 = .ok (.aload_n 1, 1) := by decide +kernel
theorem dX2_robbedIfMoved_35 : decode cX2_robbedIfMoved 35 = .ok (.getfield 112, 3) := by decide +kernel
theorem dX2_robbedIfMoved_38 : decode cX2_robbedIfMoved 38 = .ok (.isub, 1) := by decide +kernel
theorem dX2_robbedIfMoved_39 : decode cX2_robbedIfMoved 39 = .ok (.ireturn, 1) := by decide +kernel
theorem dX2_fewestPosts_0 : decode cX2_fewestPosts 0 = .ok (.aload_n 1, 1) := by decide +kernel
theorem dX2_fewestPosts_1 : decode cX2_fewestPosts 1 = .ok (.invokevirtual 125, 3) := by decide +kernel
theorem dX2_fewestPosts_4 : decode cX2_fewestPosts 4 = .ok (.istore_n 2, 1) := by decide +kernel
theorem dX2_fewestPosts_5 : decode cX2_fewestPosts 5 = .ok (.iconst 1, 1) := by decide +kernel
theorem dX2_fewestPosts_6 : decode cX2_fewestPosts 6 = .ok (.istore_n 3, 1) := by decide +kernel
theorem dX2_fewestPosts_7 : decode cX2_fewestPosts 7 = .ok (.iload_n 3, 1) := by decide +kernel
theorem dX2_fewestPosts_8 : decode cX2_fewestPosts 8 = .ok (.aload_n 1, 1) := by decide +kernel
theorem dX2_fewestPosts_9 : decode cX2_fewestPosts 9 = .ok (.invokevirtual 125, 3) := by decide +kernel
theorem dX2_fewestPosts_12 : decode cX2_fewestPosts 12 = .ok (.if_icmp .ge 30, 3) := by decide +kernel
theorem dX2_fewestPosts_15 : decode cX2_fewestPosts 15 = .ok (.iload_n 3, 1) := by decide +kernel
theorem dX2_fewestPosts_16 : decode cX2_fewestPosts 16 = .ok (.invokestatic 128, 3) := by decide +kernel
theorem dX2_fewestPosts_19 : decode cX2_fewestPosts 19 = .ok (.iload_n 2, 1) := by decide +kernel
theorem dX2_fewestPosts_20 : decode cX2_fewestPosts 20 = .ok (.invokestatic 128, 3) := by decide +kernel
theorem dX2_fewestPosts_23 : decode cX2_fewestPosts 23 = .ok (.if_icmp .ge 13, 3) := by decide +kernel
theorem dX2_fewestPosts_26 : decode cX2_fewestPosts 26 = .ok (.aload_n 1, 1) := by decide +kernel
theorem dX2_fewestPosts_27 : decode cX2_fewestPosts 27 = .ok (.iload_n 3, 1) := by decide +kernel
theorem dX2_fewestPosts_28 : decode cX2_fewestPosts 28 = .ok (.invokestatic 134, 3) := by decide +kernel
theorem dX2_fewestPosts_31 : decode cX2_fewestPosts 31 = .ok (.ifCond .eq 5, 3) := by decide +kernel
theorem dX2_fewestPosts_34 : decode cX2_fewestPosts 34 = .ok (.iload_n 3, 1) := by decide +kernel
theorem dX2_fewestPosts_35 : decode cX2_fewestPosts 35 = .ok (.istore_n 2, 1) := by decide +kernel
theorem dX2_fewestPosts_36 : decode cX2_fewestPosts 36 = .ok (.iinc 3 1, 3) := by decide +kernel
theorem dX2_fewestPosts_39 : decode cX2_fewestPosts 39 = .ok (.goto (-32), 3) := by decide +kernel
theorem dX2_fewestPosts_42 : decode cX2_fewestPosts 42 = .ok (.iload_n 2, 1) := by decide +kernel
theorem dX2_fewestPosts_43 : decode cX2_fewestPosts 43 = .ok (.ireturn, 1) := by decide +kernel
theorem dX2_areHeardInAll_0 : decode cX2_areHeardInAll 0 = .ok (.iconst 0, 1) := by decide +kernel
theorem dX2_areHeardInAll_1 : decode cX2_areHeardInAll 1 = .ok (.istore_n 2, 1) := by decide +kernel
theorem dX2_areHeardInAll_2 : decode cX2_areHeardInAll 2 = .ok (.iconst 0, 1) := by decide +kernel
theorem dX2_areHeardInAll_3 : decode cX2_areHeardInAll 3 = .ok (.istore_n 3, 1) := by decide +kernel
theorem dX2_areHeardInAll_4 : decode cX2_areHeardInAll 4 = .ok (.iload_n 3, 1) := by decide +kernel
theorem dX2_areHeardInAll_5 : decode cX2_areHeardInAll 5 = .ok (.aload_n 0, 1) := by decide +kernel
theorem dX2_areHeardInAll_6 : decode cX2_areHeardInAll 6 = .ok (.getfield 57, 3) := by decide +kernel
theorem dX2_areHeardInAll_9 : decode cX2_areHeardInAll 9 = .ok (.if_icmp .ge 57, 3) := by decide +kernel
theorem dX2_areHeardInAll_12 : decode cX2_areHeardInAll 12 = .ok (.iconst 0, 1) := by decide +kernel
theorem dX2_areHeardInAll_13 : decode cX2_areHeardInAll 13 = .ok (.istore 4, 2) := by decide +kernel
theorem dX2_areHeardInAll_15 : decode cX2_areHeardInAll 15 = .ok (.iload 4, 2) := by decide +kernel
theorem dX2_areHeardInAll_17 : decode cX2_areHeardInAll 17 = .ok (.aload_n 0, 1) := by decide +kernel
theorem dX2_areHeardInAll_18 : decode cX2_areHeardInAll 18 = .ok (.getfield 57, 3) := by decide +kernel
theorem dX2_areHeardInAll_21 : decode cX2_areHeardInAll 21 = .ok (.if_icmp .ge 39, 3) := by decide +kernel
theorem dX2_areHeardInAll_24 : decode cX2_areHeardInAll 24 = .ok (.iload_n 2, 1) := by decide +kernel
theorem dX2_areHeardInAll_25 : decode cX2_areHeardInAll 25 = .ok (.iload_n 1, 1) := by decide +kernel
theorem dX2_areHeardInAll_26 : decode cX2_areHeardInAll 26 = .ok (.iload 4, 2) := by decide +kernel
theorem dX2_areHeardInAll_28 : decode cX2_areHeardInAll 28 = .ok (.ishr, 1) := by decide +kernel
theorem dX2_areHeardInAll_29 : decode cX2_areHeardInAll 29 = .ok (.iconst 1, 1) := by decide +kernel
theorem dX2_areHeardInAll_30 : decode cX2_areHeardInAll 30 = .ok (.iand, 1) := by decide +kernel
theorem dX2_areHeardInAll_31 : decode cX2_areHeardInAll 31 = .ok (.iconst 1, 1) := by decide +kernel
theorem dX2_areHeardInAll_32 : decode cX2_areHeardInAll 32 = .ok (.if_icmp .ne 19, 3) := by decide +kernel
theorem dX2_areHeardInAll_35 : decode cX2_areHeardInAll 35 = .ok (.aload_n 0, 1) := by decide +kernel
theorem dX2_areHeardInAll_36 : decode cX2_areHeardInAll 36 = .ok (.iload_n 3, 1) := by decide +kernel
theorem dX2_areHeardInAll_37 : decode cX2_areHeardInAll 37 = .ok (.iload 4, 2) := by decide +kernel
theorem dX2_areHeardInAll_39 : decode cX2_areHeardInAll 39 = .ok (.invokevirtual 104, 3) := by decide +kernel
theorem dX2_areHeardInAll_42 : decode cX2_areHeardInAll 42 = .ok (.ifCond .eq 9, 3) := by decide +kernel
theorem dX2_areHeardInAll_45 : decode cX2_areHeardInAll 45 = .ok (.iconst 1, 1) := by decide +kernel
theorem dX2_areHeardInAll_46 : decode cX2_areHeardInAll 46 = .ok (.iload_n 3, 1) := by decide +kernel
theorem dX2_areHeardInAll_47 : decode cX2_areHeardInAll 47 = .ok (.ishl, 1) := by decide +kernel
theorem dX2_areHeardInAll_48 : decode cX2_areHeardInAll 48 = .ok (.goto 4, 3) := by decide +kernel
theorem dX2_areHeardInAll_51 : decode cX2_areHeardInAll 51 = .ok (.iconst 0, 1) := by decide +kernel
theorem dX2_areHeardInAll_52 : decode cX2_areHeardInAll 52 = .ok (.ior, 1) := by decide +kernel
theorem dX2_areHeardInAll_53 : decode cX2_areHeardInAll 53 = .ok (.istore_n 2, 1) := by decide +kernel
theorem dX2_areHeardInAll_54 : decode cX2_areHeardInAll 54 = .ok (.iinc 4 1, 3) := by decide +kernel
theorem dX2_areHeardInAll_57 : decode cX2_areHeardInAll 57 = .ok (.goto (-42), 3) := by decide +kernel
theorem dX2_areHeardInAll_60 : decode cX2_areHeardInAll 60 = .ok (.iinc 3 1, 3) := by decide +kernel
theorem dX2_areHeardInAll_63 : decode cX2_areHeardInAll 63 = .ok (.goto (-59), 3) := by decide +kernel
theorem dX2_areHeardInAll_66 : decode cX2_areHeardInAll 66 = .ok (.iload_n 2, 1) := by decide +kernel
theorem dX2_areHeardInAll_67 : decode cX2_areHeardInAll 67 = .ok (.aload_n 0, 1) := by decide +kernel
theorem dX2_areHeardInAll_68 : decode cX2_areHeardInAll 68 = .ok (.invokevirtual 125, 3) := by decide +kernel
theorem dX2_areHeardInAll_71 : decode cX2_areHeardInAll 71 = .ok (.if_icmp .ne 7, 3) := by decide +kernel
theorem dX2_areHeardInAll_74 : decode cX2_areHeardInAll 74 = .ok (.iconst 1, 1) := by decide +kernel
theorem dX2_areHeardInAll_75 : decode cX2_areHeardInAll 75 = .ok (.goto 4, 3) := by decide +kernel
theorem dX2_areHeardInAll_78 : decode cX2_areHeardInAll 78 = .ok (.iconst 0, 1) := by decide +kernel
theorem dX2_areHeardInAll_79 : decode cX2_areHeardInAll 79 = .ok (.ireturn, 1) := by decide +kernel
theorem dX2_leastReach_0 : decode cX2_leastReach 0 = .ok (.iconst 0, 1) := by decide +kernel
theorem dX2_leastReach_1 : decode cX2_leastReach 1 = .ok (.istore 4, 2) := by decide +kernel
theorem dX2_leastReach_3 : decode cX2_leastReach 3 = .ok (.iload 4, 2) := by decide +kernel
theorem dX2_leastReach_5 : decode cX2_leastReach 5 = .ok (.iconst 3, 1) := by decide +kernel
theorem dX2_leastReach_6 : decode cX2_leastReach 6 = .ok (.if_icmp .gt 64, 3) := by decide +kernel
theorem dX2_leastReach_9 : decode cX2_leastReach 9 = .ok (.aload_n 0, 1) := by decide +kernel
theorem dX2_leastReach_10 : decode cX2_leastReach 10 = .ok (.getfield 14, 3) := by decide +kernel
theorem dX2_leastReach_13 : decode cX2_leastReach 13 = .ok (.aload_n 1, 1) := by decide +kernel
theorem dX2_leastReach_14 : decode cX2_leastReach 14 = .ok (.invokevirtual 34, 3) := by decide +kernel
theorem dX2_leastReach_17 : decode cX2_leastReach 17 = .ok (.aload_n 0, 1) := by decide +kernel
theorem dX2_leastReach_18 : decode cX2_leastReach 18 = .ok (.getfield 14, 3) := by decide +kernel
theorem dX2_leastReach_21 : decode cX2_leastReach 21 = .ok (.iload 4, 2) := by decide +kernel
theorem dX2_leastReach_23 : decode cX2_leastReach 23 = .ok (.putfield 138, 3) := by decide +kernel
theorem dX2_leastReach_26 : decode cX2_leastReach 26 = .ok (.iconst 0, 1) := by decide +kernel
theorem dX2_leastReach_27 : decode cX2_leastReach 27 = .ok (.istore 5, 2) := by decide +kernel
theorem dX2_leastReach_29 : decode cX2_leastReach 29 = .ok (.iload 5, 2) := by decide +kernel
theorem dX2_leastReach_31 : decode cX2_leastReach 31 = .ok (.iload_n 3, 1) := by decide +kernel
theorem dX2_leastReach_32 : decode cX2_leastReach 32 = .ok (.if_icmp .ge 17, 3) := by decide +kernel
theorem dX2_leastReach_35 : decode cX2_leastReach 35 = .ok (.aload_n 0, 1) := by decide +kernel
theorem dX2_leastReach_36 : decode cX2_leastReach 36 = .ok (.getfield 14, 3) := by decide +kernel
theorem dX2_leastReach_39 : decode cX2_leastReach 39 = .ok (.iload_n 2, 1) := by decide +kernel
theorem dX2_leastReach_40 : decode cX2_leastReach 40 = .ok (.invokevirtual 141, 3) := by decide +kernel
theorem dX2_leastReach_43 : decode cX2_leastReach 43 = .ok (.iinc 5 1, 3) := by decide +kernel
theorem dX2_leastReach_46 : decode cX2_leastReach 46 = .ok (.goto (-17), 3) := by decide +kernel
theorem dX2_leastReach_49 : decode cX2_leastReach 49 = .ok (.aload_n 0, 1) := by decide +kernel
theorem dX2_leastReach_50 : decode cX2_leastReach 50 = .ok (.getfield 14, 3) := by decide +kernel
theorem dX2_leastReach_53 : decode cX2_leastReach 53 = .ok (.getfield 81, 3) := by decide +kernel
theorem dX2_leastReach_56 : decode cX2_leastReach 56 = .ok (.iload_n 2, 1) := by decide +kernel
theorem dX2_leastReach_57 : decode cX2_leastReach 57 = .ok (.iaload, 1) := by decide +kernel
theorem dX2_leastReach_58 : decode cX2_leastReach 58 = .ok (.ifCond .le 6, 3) := by decide +kernel
theorem dX2_leastReach_61 : decode cX2_leastReach 61 = .ok (.iload 4, 2) := by decide +kernel
theorem dX2_leastReach_63 : decode cX2_leastReach 63 = .ok (.ireturn, 1) := by decide +kernel
theorem dX2_leastReach_64 : decode cX2_leastReach 64 = .ok (.iinc 4 1, 3) := by decide +kernel
theorem dX2_leastReach_67 : decode cX2_leastReach 67 = .ok (.goto (-64), 3) := by decide +kernel
theorem dX2_leastReach_70 : decode cX2_leastReach 70 = .ok (.ldc 49, 2) := by decide +kernel
theorem dX2_leastReach_72 : decode cX2_leastReach 72 = .ok (.ireturn, 1) := by decide +kernel
theorem dX2_tell_0 : decode cX2_tell 0 = .ok (.aload_n 0, 1) := by decide +kernel
theorem dX2_tell_1 : decode cX2_tell 1 = .ok (.iload_n 3, 1) := by decide +kernel
theorem dX2_tell_2 : decode cX2_tell 2 = .ok (.aload_n 0, 1) := by decide +kernel
theorem dX2_tell_3 : decode cX2_tell 3 = .ok (.getfield 31, 3) := by decide +kernel
theorem dX2_tell_6 : decode cX2_tell 6 = .ok (.arraylength, 1) := by decide +kernel
theorem dX2_tell_7 : decode cX2_tell 7 = .ok (.invokestatic 144, 3) := by decide +kernel
theorem dX2_tell_10 : decode cX2_tell 10 = .ok (.putfield 147, 3) := by decide +kernel
theorem dX2_tell_13 : decode cX2_tell 13 = .ok (.aload_n 1, 1) := by decide +kernel
theorem dX2_tell_14 : decode cX2_tell 14 = .ok (.iload_n 2, 1) := by decide +kernel
theorem dX2_tell_15 : decode cX2_tell 15 = .ok (.aload_n 0, 1) := by decide +kernel
theorem dX2_tell_16 : decode cX2_tell 16 = .ok (.getfield 31, 3) := by decide +kernel
theorem dX2_tell_19 : decode cX2_tell 19 = .ok (.iconst 0, 1) := by decide +kernel
theorem dX2_tell_20 : decode cX2_tell 20 = .ok (.aload_n 0, 1) := by decide +kernel
theorem dX2_tell_21 : decode cX2_tell 21 = .ok (.getfield 147, 3) := by decide +kernel
theorem dX2_tell_24 : decode cX2_tell 24 = .ok (.invokestatic 150, 3) := by decide +kernel
theorem dX2_tell_27 : decode cX2_tell 27 = .ok (.return_, 1) := by decide +kernel
theorem dX2_guesses_0 : decode cX2_guesses 0 = .ok (.iconst 0, 1) := by decide +kernel
theorem dX2_guesses_1 : decode cX2_guesses 1 = .ok (.istore 4, 2) := by decide +kernel
theorem dX2_guesses_3 : decode cX2_guesses 3 = .ok (.iload_n 3, 1) := by decide +kernel
theorem dX2_guesses_4 : decode cX2_guesses 4 = .ok (.invokestatic 156, 3) := by decide +kernel
theorem dX2_guesses_7 : decode cX2_guesses 7 = .ok (.istore 5, 2) := by decide +kernel
theorem dX2_guesses_9 : decode cX2_guesses 9 = .ok (.iload 5, 2) := by decide +kernel
theorem dX2_guesses_11 : decode cX2_guesses 11 = .ok (.aload_n 1, 1) := by decide +kernel
theorem dX2_guesses_12 : decode cX2_guesses 12 = .ok (.iload_n 3, 1) := by decide +kernel
theorem dX2_guesses_13 : decode cX2_guesses 13 = .ok (.invokestatic 159, 3) := by decide +kernel
theorem dX2_guesses_16 : decode cX2_guesses 16 = .ok (.if_icmp .gt 46, 3) := by decide +kernel
theorem dX2_guesses_19 : decode cX2_guesses 19 = .ok (.aload_n 0, 1) := by decide +kernel
theorem dX2_guesses_20 : decode cX2_guesses 20 = .ok (.getfield 14, 3) := by decide +kernel
theorem dX2_guesses_23 : decode cX2_guesses 23 = .ok (.aload_n 1, 1) := by decide +kernel
theorem dX2_guesses_24 : decode cX2_guesses 24 = .ok (.invokevirtual 34, 3) := by decide +kernel
theorem dX2_guesses_27 : decode cX2_guesses 27 = .ok (.aload_n 0, 1) := by decide +kernel
theorem dX2_guesses_28 : decode cX2_guesses 28 = .ok (.iload_n 2, 1) := by decide +kernel
theorem dX2_guesses_29 : decode cX2_guesses 29 = .ok (.iload_n 3, 1) := by decide +kernel
theorem dX2_guesses_30 : decode cX2_guesses 30 = .ok (.iload 5, 2) := by decide +kernel
theorem dX2_guesses_32 : decode cX2_guesses 32 = .ok (.invokevirtual 163, 3) := by decide +kernel
theorem dX2_guesses_35 : decode cX2_guesses 35 = .ok (.iload 4, 2) := by decide +kernel
theorem dX2_guesses_37 : decode cX2_guesses 37 = .ok (.aload_n 0, 1) := by decide +kernel
theorem dX2_guesses_38 : decode cX2_guesses 38 = .ok (.iload_n 2, 1) := by decide +kernel
theorem dX2_guesses_39 : decode cX2_guesses 39 = .ok (.invokevirtual 167, 3) := by decide +kernel
theorem dX2_guesses_42 : decode cX2_guesses 42 = .ok (.ifCond .eq 10, 3) := by decide +kernel
theorem dX2_guesses_45 : decode cX2_guesses 45 = .ok (.iconst 1, 1) := by decide +kernel
theorem dX2_guesses_46 : decode cX2_guesses 46 = .ok (.iload 5, 2) := by decide +kernel
theorem dX2_guesses_48 : decode cX2_guesses 48 = .ok (.ishl, 1) := by decide +kernel
theorem dX2_guesses_49 : decode cX2_guesses 49 = .ok (.goto 4, 3) := by decide +kernel
theorem dX2_guesses_52 : decode cX2_guesses 52 = .ok (.iconst 0, 1) := by decide +kernel
theorem dX2_guesses_53 : decode cX2_guesses 53 = .ok (.ior, 1) := by decide +kernel
theorem dX2_guesses_54 : decode cX2_guesses 54 = .ok (.istore 4, 2) := by decide +kernel
theorem dX2_guesses_56 : decode cX2_guesses 56 = .ok (.iinc 5 1, 3) := by decide +kernel
theorem dX2_guesses_59 : decode cX2_guesses 59 = .ok (.goto (-50), 3) := by decide +kernel
theorem dX2_guesses_62 : decode cX2_guesses 62 = .ok (.iload 4, 2) := by decide +kernel
theorem dX2_guesses_64 : decode cX2_guesses 64 = .ok (.ireturn, 1) := by decide +kernel
theorem dX2_firstGuess_0 : decode cX2_firstGuess 0 = .ok (.iload_n 0, 1) := by decide +kernel
theorem dX2_firstGuess_1 : decode cX2_firstGuess 1 = .ok (.ifCond .ne 7, 3) := by decide +kernel
theorem dX2_firstGuess_4 : decode cX2_firstGuess 4 = .ok (.iconst 1, 1) := by decide +kernel
theorem dX2_firstGuess_5 : decode cX2_firstGuess 5 = .ok (.goto 4, 3) := by decide +kernel
theorem dX2_firstGuess_8 : decode cX2_firstGuess 8 = .ok (.iconst 0, 1) := by decide +kernel
theorem dX2_firstGuess_9 : decode cX2_firstGuess 9 = .ok (.ireturn, 1) := by decide +kernel
theorem dX2_lastGuess_0 : decode cX2_lastGuess 0 = .ok (.iload_n 1, 1) := by decide +kernel
theorem dX2_lastGuess_1 : decode cX2_lastGuess 1 = .ok (.tableswitch 34 0 2 #[27, 29, 32], 27) := by decide +kernel
theorem dX2_lastGuess_28 : decode cX2_lastGuess 28 = .ok (.iconst 5, 1) := by decide +kernel
theorem dX2_lastGuess_29 : decode cX2_lastGuess 29 = .ok (.ireturn, 1) := by decide +kernel
theorem dX2_lastGuess_30 : decode cX2_lastGuess 30 = .ok (.bipush 20, 2) := by decide +kernel
theorem dX2_lastGuess_32 : decode cX2_lastGuess 32 = .ok (.ireturn, 1) := by decide +kernel
theorem dX2_lastGuess_33 : decode cX2_lastGuess 33 = .ok (.iconst 3, 1) := by decide +kernel
theorem dX2_lastGuess_34 : decode cX2_lastGuess 34 = .ok (.ireturn, 1) := by decide +kernel
theorem dX2_lastGuess_35 : decode cX2_lastGuess 35 = .ok (.aload_n 0, 1) := by decide +kernel
theorem dX2_lastGuess_36 : decode cX2_lastGuess 36 = .ok (.getfield 57, 3) := by decide +kernel
theorem dX2_lastGuess_39 : decode cX2_lastGuess 39 = .ok (.iconst 1, 1) := by decide +kernel
theorem dX2_lastGuess_40 : decode cX2_lastGuess 40 = .ok (.isub, 1) := by decide +kernel
theorem dX2_lastGuess_41 : decode cX2_lastGuess 41 = .ok (.ireturn, 1) := by decide +kernel
theorem dX2_suppose_0 : decode cX2_suppose 0 = .ok (.iload_n 2, 1) := by decide +kernel
theorem dX2_suppose_1 : decode cX2_suppose 1 = .ok (.tableswitch 64 0 2 #[27, 40, 53], 27) := by decide +kernel
theorem dX2_suppose_28 : decode cX2_suppose 28 = .ok (.aload_n 0, 1) := by decide +kernel
theorem dX2_suppose_29 : decode cX2_suppose 29 = .ok (.getfield 14, 3) := by decide +kernel
theorem dX2_suppose_32 : decode cX2_suppose 32 = .ok (.getfield 97, 3) := by decide +kernel
theorem dX2_suppose_35 : decode cX2_suppose 35 = .ok (.iload_n 1, 1) := by decide +kernel
theorem dX2_suppose_36 : decode cX2_suppose 36 = .ok (.iload_n 3, 1) := by decide +kernel
theorem dX2_suppose_37 : decode cX2_suppose 37 = .ok (.iastore, 1) := by decide +kernel
theorem dX2_suppose_38 : decode cX2_suppose 38 = .ok (.goto 43, 3) := by decide +kernel
theorem dX2_suppose_41 : decode cX2_suppose 41 = .ok (.aload_n 0, 1) := by decide +kernel
theorem dX2_suppose_42 : decode cX2_suppose 42 = .ok (.getfield 14, 3) := by decide +kernel
theorem dX2_suppose_45 : decode cX2_suppose 45 = .ok (.getfield 81, 3) := by decide +kernel
theorem dX2_suppose_48 : decode cX2_suppose 48 = .ok (.iload_n 1, 1) := by decide +kernel
theorem dX2_suppose_49 : decode cX2_suppose 49 = .ok (.iload_n 3, 1) := by decide +kernel
theorem dX2_suppose_50 : decode cX2_suppose 50 = .ok (.iastore, 1) := by decide +kernel
theorem dX2_suppose_51 : decode cX2_suppose 51 = .ok (.goto 30, 3) := by decide +kernel
theorem dX2_suppose_54 : decode cX2_suppose 54 = .ok (.aload_n 0, 1) := by decide +kernel
theorem dX2_suppose_55 : decode cX2_suppose 55 = .ok (.getfield 14, 3) := by decide +kernel
theorem dX2_suppose_58 : decode cX2_suppose 58 = .ok (.iload_n 3, 1) := by decide +kernel
theorem dX2_suppose_59 : decode cX2_suppose 59 = .ok (.putfield 138, 3) := by decide +kernel
theorem dX2_suppose_62 : decode cX2_suppose 62 = .ok (.goto 19, 3) := by decide +kernel
theorem dX2_suppose_65 : decode cX2_suppose 65 = .ok (.aload_n 0, 1) := by decide +kernel
theorem dX2_suppose_66 : decode cX2_suppose 66 = .ok (.getfield 14, 3) := by decide +kernel
theorem dX2_suppose_69 : decode cX2_suppose 69 = .ok (.getfield 122, 3) := by decide +kernel
theorem dX2_suppose_72 : decode cX2_suppose 72 = .ok (.aload_n 0, 1) := by decide +kernel
theorem dX2_suppose_73 : decode cX2_suppose 73 = .ok (.getfield 14, 3) := by decide +kernel
theorem dX2_suppose_76 : decode cX2_suppose 76 = .ok (.invokevirtual 173, 3) := by decide +kernel
theorem dX2_suppose_79 : decode cX2_suppose 79 = .ok (.iload_n 3, 1) := by decide +kernel
theorem dX2_suppose_80 : decode cX2_suppose 80 = .ok (.iastore, 1) := by decide +kernel
theorem dX2_suppose_81 : decode cX2_suppose 81 = .ok (.return_, 1) := by decide +kernel
theorem dX2_sleepsAsTold_0 : decode cX2_sleepsAsTold 0 = .ok (.iconst 0, 1) := by decide +kernel
theorem dX2_sleepsAsTold_1 : decode cX2_sleepsAsTold 1 = .ok (.istore_n 2, 1) := by decide +kernel
theorem dX2_sleepsAsTold_2 : decode cX2_sleepsAsTold 2 = .ok (.iload_n 2, 1) := by decide +kernel
theorem dX2_sleepsAsTold_3 : decode cX2_sleepsAsTold 3 = .ok (.aload_n 0, 1) := by decide +kernel
theorem dX2_sleepsAsTold_4 : decode cX2_sleepsAsTold 4 = .ok (.getfield 147, 3) := by decide +kernel
theorem dX2_sleepsAsTold_7 : decode cX2_sleepsAsTold 7 = .ok (.if_icmp .ge 37, 3) := by decide +kernel
theorem dX2_sleepsAsTold_10 : decode cX2_sleepsAsTold 10 = .ok (.aload_n 0, 1) := by decide +kernel
theorem dX2_sleepsAsTold_11 : decode cX2_sleepsAsTold 11 = .ok (.getfield 14, 3) := by decide +kernel
theorem dX2_sleepsAsTold_14 : decode cX2_sleepsAsTold 14 = .ok (.iload_n 1, 1) := by decide +kernel
theorem dX2_sleepsAsTold_15 : decode cX2_sleepsAsTold 15 = .ok (.invokevirtual 141, 3) := by decide +kernel
theorem dX2_sleepsAsTold_18 : decode cX2_sleepsAsTold 18 = .ok (.aload_n 0, 1) := by decide +kernel
theorem dX2_sleepsAsTold_19 : decode cX2_sleepsAsTold 19 = .ok (.getfield 14, 3) := by decide +kernel
theorem dX2_sleepsAsTold_22 : decode cX2_sleepsAsTold 22 = .ok (.getfield 81, 3) := by decide +kernel
theorem dX2_sleepsAsTold_25 : decode cX2_sleepsAsTold 25 = .ok (.iload_n 1, 1) := by decide +kernel
theorem dX2_sleepsAsTold_26 : decode cX2_sleepsAsTold 26 = .ok (.iaload, 1) := by decide +kernel
theorem dX2_sleepsAsTold_27 : decode cX2_sleepsAsTold 27 = .ok (.aload_n 0, 1) := by decide +kernel
theorem dX2_sleepsAsTold_28 : decode cX2_sleepsAsTold 28 = .ok (.getfield 31, 3) := by decide +kernel
theorem dX2_sleepsAsTold_31 : decode cX2_sleepsAsTold 31 = .ok (.iload_n 2, 1) := by decide +kernel
theorem dX2_sleepsAsTold_32 : decode cX2_sleepsAsTold 32 = .ok (.iaload, 1) := by decide +kernel
theorem dX2_sleepsAsTold_33 : decode cX2_sleepsAsTold 33 = .ok (.if_icmp .eq 5, 3) := by decide +kernel
theorem dX2_sleepsAsTold_36 : decode cX2_sleepsAsTold 36 = .ok (.iconst 0, 1) := by decide +kernel
theorem dX2_sleepsAsTold_37 : decode cX2_sleepsAsTold 37 = .ok (.ireturn, 1) := by decide +kernel
theorem dX2_sleepsAsTold_38 : decode cX2_sleepsAsTold 38 = .ok (.iinc 2 1, 3) := by decide +kernel
theorem dX2_sleepsAsTold_41 : decode cX2_sleepsAsTold 41 = .ok (.goto (-39), 3) := by decide +kernel
theorem dX2_sleepsAsTold_44 : decode cX2_sleepsAsTold 44 = .ok (.iconst 1, 1) := by decide +kernel
theorem dX2_sleepsAsTold_45 : decode cX2_sleepsAsTold 45 = .ok (.ireturn, 1) := by decide +kernel
theorem dX2_chancesAwake_0 : decode cX2_chancesAwake 0 = .ok (.aload_n 0, 1) := by decide +kernel
theorem dX2_chancesAwake_1 : decode cX2_chancesAwake 1 = .ok (.getfield 14, 3) := by decide +kernel
theorem dX2_chancesAwake_4 : decode cX2_chancesAwake 4 = .ok (.aload_n 1, 1) := by decide +kernel
theorem dX2_chancesAwake_5 : decode cX2_chancesAwake 5 = .ok (.invokevirtual 34, 3) := by decide +kernel
theorem dX2_chancesAwake_8 : decode cX2_chancesAwake 8 = .ok (.aload_n 0, 1) := by decide +kernel
theorem dX2_chancesAwake_9 : decode cX2_chancesAwake 9 = .ok (.getfield 25, 3) := by decide +kernel
theorem dX2_chancesAwake_12 : decode cX2_chancesAwake 12 = .ok (.iconst 0, 1) := by decide +kernel
theorem dX2_chancesAwake_13 : decode cX2_chancesAwake 13 = .ok (.invokestatic 176, 3) := by decide +kernel
theorem dX2_chancesAwake_16 : decode cX2_chancesAwake 16 = .ok (.aload_n 0, 1) := by decide +kernel
theorem dX2_chancesAwake_17 : decode cX2_chancesAwake 17 = .ok (.getfield 25, 3) := by decide +kernel
theorem dX2_chancesAwake_20 : decode cX2_chancesAwake 20 = .ok (.aload_n 1, 1) := by decide +kernel
theorem dX2_chancesAwake_21 : decode cX2_chancesAwake 21 = .ok (.getfield 81, 3) := by decide +kernel
theorem dX2_chancesAwake_24 : decode cX2_chancesAwake 24 = .ok (.iload_n 2, 1) := by decide +kernel
theorem dX2_chancesAwake_25 : decode cX2_chancesAwake 25 = .ok (.iaload, 1) := by decide +kernel
theorem dX2_chancesAwake_26 : decode cX2_chancesAwake 26 = .ok (.iconst 1, 1) := by decide +kernel
theorem dX2_chancesAwake_27 : decode cX2_chancesAwake 27 = .ok (.iastore, 1) := by decide +kernel
theorem dX2_chancesAwake_28 : decode cX2_chancesAwake 28 = .ok (.iconst 0, 1) := by decide +kernel
theorem dX2_chancesAwake_29 : decode cX2_chancesAwake 29 = .ok (.istore 5, 2) := by decide +kernel
theorem dX2_chancesAwake_31 : decode cX2_chancesAwake 31 = .ok (.iload 5, 2) := by decide +kernel
theorem dX2_chancesAwake_33 : decode cX2_chancesAwake 33 = .ok (.iload_n 3, 1) := by decide +kernel
theorem dX2_chancesAwake_34 : decode cX2_chancesAwake 34 = .ok (.if_icmp .ge 52, 3) := by decide +kernel
theorem dX2_chancesAwake_37 : decode cX2_chancesAwake 37 = .ok (.aload_n 0, 1) := by decide +kernel
theorem dX2_chancesAwake_38 : decode cX2_chancesAwake 38 = .ok (.aload_n 0, 1) := by decide +kernel
theorem dX2_chancesAwake_39 : decode cX2_chancesAwake 39 = .ok (.getfield 14, 3) := by decide +kernel
theorem dX2_chancesAwake_42 : decode cX2_chancesAwake 42 = .ok (.getfield 97, 3) := by decide +kernel
theorem dX2_chancesAwake_45 : decode cX2_chancesAwake 45 = .ok (.iload_n 2, 1) := by decide +kernel
theorem dX2_chancesAwake_46 : decode cX2_chancesAwake 46 = .ok (.iaload, 1) := by decide +kernel
theorem dX2_chancesAwake_47 : decode cX2_chancesAwake 47 = .ok (.aload_n 0, 1) := by decide +kernel
theorem dX2_chancesAwake_48 : decode cX2_chancesAwake 48 = .ok (.getfield 14, 3) := by decide +kernel
theorem dX2_chancesAwake_51 : decode cX2_chancesAwake 51 = .ok (.iload_n 2, 1) := by decide +kernel
theorem dX2_chancesAwake_52 : decode cX2_chancesAwake 52 = .ok (.invokevirtual 182, 3) := by decide +kernel
theorem dX2_chancesAwake_55 : decode cX2_chancesAwake 55 = .ok (.aload_n 0, 1) := by decide +kernel
theorem dX2_chancesAwake_56 : decode cX2_chancesAwake 56 = .ok (.getfield 14, 3) := by decide +kernel
theorem dX2_chancesAwake_59 : decode cX2_chancesAwake 59 = .ok (.getfield 87, 3) := by decide +kernel
theorem dX2_chancesAwake_62 : decode cX2_chancesAwake 62 = .ok (.iload 4, 2) := by decide +kernel
theorem dX2_chancesAwake_64 : decode cX2_chancesAwake 64 = .ok (.invokevirtual 185, 3) := by decide +kernel
theorem dX2_chancesAwake_67 : decode cX2_chancesAwake 67 = .ok (.aload_n 0, 1) := by decide +kernel
theorem dX2_chancesAwake_68 : decode cX2_chancesAwake 68 = .ok (.getfield 14, 3) := by decide +kernel
theorem dX2_chancesAwake_71 : decode cX2_chancesAwake 71 = .ok (.dup, 1) := by decide +kernel
theorem dX2_chancesAwake_72 : decode cX2_chancesAwake 72 = .ok (.getfield 87, 3) := by decide +kernel
theorem dX2_chancesAwake_75 : decode cX2_chancesAwake 75 = .ok (.iconst 1, 1) := by decide +kernel
theorem dX2_chancesAwake_76 : decode cX2_chancesAwake 76 = .ok (.iadd, 1) := by decide +kernel
theorem dX2_chancesAwake_77 : decode cX2_chancesAwake 77 = .ok (.putfield 87, 3) := by decide +kernel
theorem dX2_chancesAwake_80 : decode cX2_chancesAwake 80 = .ok (.iinc 5 1, 3) := by decide +kernel
theorem dX2_chancesAwake_83 : decode cX2_chancesAwake 83 = .ok (.goto (-52), 3) := by decide +kernel
theorem dX2_chancesAwake_86 : decode cX2_chancesAwake 86 = .ok (.aload_n 0, 1) := by decide +kernel
theorem dX2_chancesAwake_87 : decode cX2_chancesAwake 87 = .ok (.getfield 25, 3) := by decide +kernel
theorem dX2_chancesAwake_90 : decode cX2_chancesAwake 90 = .ok (.iconst 0, 1) := by decide +kernel
theorem dX2_chancesAwake_91 : decode cX2_chancesAwake 91 = .ok (.iaload, 1) := by decide +kernel
theorem dX2_chancesAwake_92 : decode cX2_chancesAwake 92 = .ok (.ireturn, 1) := by decide +kernel
theorem dX2_takeChances_0 : decode cX2_takeChances 0 = .ok (.aload_n 0, 1) := by decide +kernel
theorem dX2_takeChances_1 : decode cX2_takeChances 1 = .ok (.getfield 28, 3) := by decide +kernel
theorem dX2_takeChances_4 : decode cX2_takeChances 4 = .ok (.iconst 0, 1) := by decide +kernel
theorem dX2_takeChances_5 : decode cX2_takeChances 5 = .ok (.invokestatic 176, 3) := by decide +kernel
theorem dX2_takeChances_8 : decode cX2_takeChances 8 = .ok (.iconst 0, 1) := by decide +kernel
theorem dX2_takeChances_9 : decode cX2_takeChances 9 = .ok (.istore 5, 2) := by decide +kernel
theorem dX2_takeChances_11 : decode cX2_takeChances 11 = .ok (.iload 5, 2) := by decide +kernel
theorem dX2_takeChances_13 : decode cX2_takeChances 13 = .ok (.bipush 20, 2) := by decide +kernel
theorem dX2_takeChances_15 : decode cX2_takeChances 15 = .ok (.if_icmp .gt 64, 3) := by decide +kernel
theorem dX2_takeChances_18 : decode cX2_takeChances 18 = .ok (.aload_n 0, 1) := by decide +kernel
theorem dX2_takeChances_19 : decode cX2_takeChances 19 = .ok (.getfield 28, 3) := by decide +kernel
theorem dX2_takeChances_22 : decode cX2_takeChances 22 = .ok (.iload_n 1, 1) := by decide +kernel
theorem dX2_takeChances_23 : decode cX2_takeChances 23 = .ok (.iload 5, 2) := by decide +kernel
theorem dX2_takeChances_25 : decode cX2_takeChances 25 = .ok (.iload_n 2, 1) := by decide +kernel
theorem dX2_takeChances_26 : decode cX2_takeChances 26 = .ok (.iload_n 3, 1) := by decide +kernel
theorem dX2_takeChances_27 : decode cX2_takeChances 27 = .ok (.invokestatic 100, 3) := by decide +kernel
theorem dX2_takeChances_30 : decode cX2_takeChances 30 = .ok (.dup2, 1) := by decide +kernel
theorem dX2_takeChances_31 : decode cX2_takeChances 31 = .ok (.iaload, 1) := by decide +kernel
theorem dX2_takeChances_32 : decode cX2_takeChances 32 = .ok (.aload_n 0, 1) := by decide +kernel
theorem dX2_takeChances_33 : decode cX2_takeChances 33 = .ok (.getfield 25, 3) := by decide +kernel
theorem dX2_takeChances_36 : decode cX2_takeChances 36 = .ok (.iload 5, 2) := by decide +kernel
theorem dX2_takeChances_38 : decode cX2_takeChances 38 = .ok (.iaload, 1) := by decide +kernel
theorem dX2_takeChances_39 : decode cX2_takeChances 39 = .ok (.bipush 10, 2) := by decide +kernel
theorem dX2_takeChances_41 : decode cX2_takeChances 41 = .ok (.iload 4, 2) := by decide +kernel
theorem dX2_takeChances_43 : decode cX2_takeChances 43 = .ok (.isub, 1) := by decide +kernel
theorem dX2_takeChances_44 : decode cX2_takeChances 44 = .ok (.imul, 1) := by decide +kernel
theorem dX2_takeChances_45 : decode cX2_takeChances 45 = .ok (.iadd, 1) := by decide +kernel
theorem dX2_takeChances_46 : decode cX2_takeChances 46 = .ok (.iastore, 1) := by decide +kernel
theorem dX2_takeChances_47 : decode cX2_takeChances 47 = .ok (.aload_n 0, 1) := by decide +kernel
theorem dX2_takeChances_48 : decode cX2_takeChances 48 = .ok (.getfield 28, 3) := by decide +kernel
theorem dX2_takeChances_51 : decode cX2_takeChances 51 = .ok (.iload_n 1, 1) := by decide +kernel
theorem dX2_takeChances_52 : decode cX2_takeChances 52 = .ok (.iload 5, 2) := by decide +kernel
theorem dX2_takeChances_54 : decode cX2_takeChances 54 = .ok (.iconst 0, 1) := by decide +kernel
theorem dX2_takeChances_55 : decode cX2_takeChances 55 = .ok (.iload_n 3, 1) := by decide +kernel
theorem dX2_takeChances_56 : decode cX2_takeChances 56 = .ok (.invokestatic 100, 3) := by decide +kernel
theorem dX2_takeChances_59 : decode cX2_takeChances 59 = .ok (.dup2, 1) := by decide +kernel
theorem dX2_takeChances_60 : decode cX2_takeChances 60 = .ok (.iaload, 1) := by decide +kernel
theorem dX2_takeChances_61 : decode cX2_takeChances 61 = .ok (.aload_n 0, 1) := by decide +kernel
theorem dX2_takeChances_62 : decode cX2_takeChances 62 = .ok (.getfield 25, 3) := by decide +kernel
theorem dX2_takeChances_65 : decode cX2_takeChances 65 = .ok (.iload 5, 2) := by decide +kernel
theorem dX2_takeChances_67 : decode cX2_takeChances 67 = .ok (.iaload, 1) := by decide +kernel
theorem dX2_takeChances_68 : decode cX2_takeChances 68 = .ok (.iload 4, 2) := by decide +kernel
theorem dX2_takeChances_70 : decode cX2_takeChances 70 = .ok (.imul, 1) := by decide +kernel
theorem dX2_takeChances_71 : decode cX2_takeChances 71 = .ok (.iadd, 1) := by decide +kernel
theorem dX2_takeChances_72 : decode cX2_takeChances 72 = .ok (.iastore, 1) := by decide +kernel
theorem dX2_takeChances_73 : decode cX2_takeChances 73 = .ok (.iinc 5 1, 3) := by decide +kernel
theorem dX2_takeChances_76 : decode cX2_takeChances 76 = .ok (.goto (-65), 3) := by decide +kernel
theorem dX2_takeChances_79 : decode cX2_takeChances 79 = .ok (.aload_n 0, 1) := by decide +kernel
theorem dX2_takeChances_80 : decode cX2_takeChances 80 = .ok (.getfield 25, 3) := by decide +kernel
theorem dX2_takeChances_83 : decode cX2_takeChances 83 = .ok (.astore 5, 2) := by decide +kernel
theorem dX2_takeChances_85 : decode cX2_takeChances 85 = .ok (.aload_n 0, 1) := by decide +kernel
theorem dX2_takeChances_86 : decode cX2_takeChances 86 = .ok (.aload_n 0, 1) := by decide +kernel
theorem dX2_takeChances_87 : decode cX2_takeChances 87 = .ok (.getfield 28, 3) := by decide +kernel
theorem dX2_takeChances_90 : decode cX2_takeChances 90 = .ok (.putfield 25, 3) := by decide +kernel
theorem dX2_takeChances_93 : decode cX2_takeChances 93 = .ok (.aload_n 0, 1) := by decide +kernel
theorem dX2_takeChances_94 : decode cX2_takeChances 94 = .ok (.aload 5, 2) := by decide +kernel
theorem dX2_takeChances_96 : decode cX2_takeChances 96 = .ok (.putfield 28, 3) := by decide +kernel
theorem dX2_takeChances_99 : decode cX2_takeChances 99 = .ok (.return_, 1) := by decide +kernel
theorem dX2_chancesInAll_0 : decode cX2_chancesInAll 0 = .ok (.iconst 1, 1) := by decide +kernel
theorem dX2_chancesInAll_1 : decode cX2_chancesInAll 1 = .ok (.istore_n 1, 1) := by decide +kernel
theorem dX2_chancesInAll_2 : decode cX2_chancesInAll 2 = .ok (.iconst 0, 1) := by decide +kernel
theorem dX2_chancesInAll_3 : decode cX2_chancesInAll 3 = .ok (.istore_n 2, 1) := by decide +kernel
theorem dX2_chancesInAll_4 : decode cX2_chancesInAll 4 = .ok (.iload_n 2, 1) := by decide +kernel
theorem dX2_chancesInAll_5 : decode cX2_chancesInAll 5 = .ok (.iload_n 0, 1) := by decide +kernel
theorem dX2_chancesInAll_6 : decode cX2_chancesInAll 6 = .ok (.if_icmp .ge 14, 3) := by decide +kernel
theorem dX2_chancesInAll_9 : decode cX2_chancesInAll 9 = .ok (.iload_n 1, 1) := by decide +kernel
theorem dX2_chancesInAll_10 : decode cX2_chancesInAll 10 = .ok (.bipush 10, 2) := by decide +kernel
theorem dX2_chancesInAll_12 : decode cX2_chancesInAll 12 = .ok (.imul, 1) := by decide +kernel
theorem dX2_chancesInAll_13 : decode cX2_chancesInAll 13 = .ok (.istore_n 1, 1) := by decide +kernel
theorem dX2_chancesInAll_14 : decode cX2_chancesInAll 14 = .ok (.iinc 2 1, 3) := by decide +kernel
theorem dX2_chancesInAll_17 : decode cX2_chancesInAll 17 = .ok (.goto (-13), 3) := by decide +kernel
theorem dX2_chancesInAll_20 : decode cX2_chancesInAll 20 = .ok (.iload_n 1, 1) := by decide +kernel
theorem dX2_chancesInAll_21 : decode cX2_chancesInAll 21 = .ok (.ireturn, 1) := by decide +kernel
theorem dX2_commonDivisor_0 : decode cX2_commonDivisor 0 = .ok (.iload_n 0, 1) := by decide +kernel
theorem dX2_commonDivisor_1 : decode cX2_commonDivisor 1 = .ok (.istore_n 2, 1) := by decide +kernel
theorem dX2_commonDivisor_2 : decode cX2_commonDivisor 2 = .ok (.iload_n 1, 1) := by decide +kernel
theorem dX2_commonDivisor_3 : decode cX2_commonDivisor 3 = .ok (.istore_n 3, 1) := by decide +kernel
theorem dX2_commonDivisor_4 : decode cX2_commonDivisor 4 = .ok (.iconst 0, 1) := by decide +kernel
theorem dX2_commonDivisor_5 : decode cX2_commonDivisor 5 = .ok (.istore 4, 2) := by decide +kernel
theorem dX2_commonDivisor_7 : decode cX2_commonDivisor 7 = .ok (.iload 4, 2) := by decide +kernel
theorem dX2_commonDivisor_9 : decode cX2_commonDivisor 9 = .ok (.bipush 100, 2) := by decide +kernel
theorem dX2_commonDivisor_11 : decode cX2_commonDivisor 11 = .ok (.if_icmp .ge 23, 3) := by decide +kernel
theorem dX2_commonDivisor_14 : decode cX2_commonDivisor 14 = .ok (.iload_n 3, 1) := by decide +kernel
theorem dX2_commonDivisor_15 : decode cX2_commonDivisor 15 = .ok (.ifCond .eq 19, 3) := by decide +kernel
theorem dX2_commonDivisor_18 : decode cX2_commonDivisor 18 = .ok (.iload_n 2, 1) := by decide +kernel
theorem dX2_commonDivisor_19 : decode cX2_commonDivisor 19 = .ok (.iload_n 3, 1) := by decide +kernel
theorem dX2_commonDivisor_20 : decode cX2_commonDivisor 20 = .ok (.irem, 1) := by decide +kernel
theorem dX2_commonDivisor_21 : decode cX2_commonDivisor 21 = .ok (.istore 5, 2) := by decide +kernel
theorem dX2_commonDivisor_23 : decode cX2_commonDivisor 23 = .ok (.iload_n 3, 1) := by decide +kernel
theorem dX2_commonDivisor_24 : decode cX2_commonDivisor 24 = .ok (.istore_n 2, 1) := by decide +kernel
theorem dX2_commonDivisor_25 : decode cX2_commonDivisor 25 = .ok (.iload 5, 2) := by decide +kernel
theorem dX2_commonDivisor_27 : decode cX2_commonDivisor 27 = .ok (.istore_n 3, 1) := by decide +kernel
theorem dX2_commonDivisor_28 : decode cX2_commonDivisor 28 = .ok (.iinc 4 1, 3) := by decide +kernel
theorem dX2_commonDivisor_31 : decode cX2_commonDivisor 31 = .ok (.goto (-24), 3) := by decide +kernel
theorem dX2_commonDivisor_34 : decode cX2_commonDivisor 34 = .ok (.iload_n 2, 1) := by decide +kernel
theorem dX2_commonDivisor_35 : decode cX2_commonDivisor 35 = .ok (.ireturn, 1) := by decide +kernel
theorem dX2_townByDraws_0 : decode cX2_townByDraws 0 = .ok (.aload_n 0, 1) := by decide +kernel
theorem dX2_townByDraws_1 : decode cX2_townByDraws 1 = .ok (.getfield 14, 3) := by decide +kernel
theorem dX2_townByDraws_4 : decode cX2_townByDraws 4 = .ok (.aload_n 1, 1) := by decide +kernel
theorem dX2_townByDraws_5 : decode cX2_townByDraws 5 = .ok (.invokevirtual 34, 3) := by decide +kernel
theorem dX2_townByDraws_8 : decode cX2_townByDraws 8 = .ok (.iload_n 3, 1) := by decide +kernel
theorem dX2_townByDraws_9 : decode cX2_townByDraws 9 = .ok (.i2l, 1) := by decide +kernel
theorem dX2_townByDraws_10 : decode cX2_townByDraws 10 = .ok (.lstore 4, 2) := by decide +kernel
theorem dX2_townByDraws_12 : decode cX2_townByDraws 12 = .ok (.iconst 0, 1) := by decide +kernel
theorem dX2_townByDraws_13 : decode cX2_townByDraws 13 = .ok (.istore 6, 2) := by decide +kernel
theorem dX2_townByDraws_15 : decode cX2_townByDraws 15 = .ok (.iload 6, 2) := by decide +kernel
theorem dX2_townByDraws_17 : decode cX2_townByDraws 17 = .ok (.iload_n 2, 1) := by decide +kernel
theorem dX2_townByDraws_18 : decode cX2_townByDraws 18 = .ok (.if_icmp .ge 35, 3) := by decide +kernel
theorem dX2_townByDraws_21 : decode cX2_townByDraws 21 = .ok (.lload 4, 2) := by decide +kernel
theorem dX2_townByDraws_23 : decode cX2_townByDraws 23 = .ok (.ldc2_w 189, 3) := by decide +kernel
theorem dX2_townByDraws_26 : decode cX2_townByDraws 26 = .ok (.lmul, 1) := by decide +kernel
theorem dX2_townByDraws_27 : decode cX2_townByDraws 27 = .ok (.ldc2_w 191, 3) := by decide +kernel
theorem dX2_townByDraws_30 : decode cX2_townByDraws 30 = .ok (.lrem, 1) := by decide +kernel
theorem dX2_townByDraws_31 : decode cX2_townByDraws 31 = .ok (.lstore 4, 2) := by decide +kernel
theorem dX2_townByDraws_33 : decode cX2_townByDraws 33 = .ok (.aload_n 0, 1) := by decide +kernel
theorem dX2_townByDraws_34 : decode cX2_townByDraws 34 = .ok (.lload 4, 2) := by decide +kernel
theorem dX2_townByDraws_36 : decode cX2_townByDraws 36 = .ok (.l2i, 1) := by decide +kernel
theorem dX2_townByDraws_37 : decode cX2_townByDraws 37 = .ok (.invokevirtual 193, 3) := by decide +kernel
theorem dX2_townByDraws_40 : decode cX2_townByDraws 40 = .ok (.aload_n 0, 1) := by decide +kernel
theorem dX2_townByDraws_41 : decode cX2_townByDraws 41 = .ok (.getfield 14, 3) := by decide +kernel
theorem dX2_townByDraws_44 : decode cX2_townByDraws 44 = .ok (.invokevirtual 46, 3) := by decide +kernel
theorem dX2_townByDraws_47 : decode cX2_townByDraws 47 = .ok (.iinc 6 1, 3) := by decide +kernel
theorem dX2_townByDraws_50 : decode cX2_townByDraws 50 = .ok (.goto (-35), 3) := by decide +kernel
theorem dX2_townByDraws_53 : decode cX2_townByDraws 53 = .ok (.aload_n 0, 1) := by decide +kernel
theorem dX2_townByDraws_54 : decode cX2_townByDraws 54 = .ok (.getfield 14, 3) := by decide +kernel
theorem dX2_townByDraws_57 : decode cX2_townByDraws 57 = .ok (.areturn, 1) := by decide +kernel
theorem dX2_applyDraw_0 : decode cX2_applyDraw 0 = .ok (.iload_n 1, 1) := by decide +kernel
theorem dX2_applyDraw_1 : decode cX2_applyDraw 1 = .ok (.aload_n 0, 1) := by decide +kernel
theorem dX2_applyDraw_2 : decode cX2_applyDraw 2 = .ok (.getfield 14, 3) := by decide +kernel
theorem dX2_applyDraw_5 : decode cX2_applyDraw 5 = .ok (.getfield 57, 3) := by decide +kernel
theorem dX2_applyDraw_8 : decode cX2_applyDraw 8 = .ok (.iconst 1, 1) := by decide +kernel
theorem dX2_applyDraw_9 : decode cX2_applyDraw 9 = .ok (.invokestatic 71, 3) := by decide +kernel
theorem dX2_applyDraw_12 : decode cX2_applyDraw 12 = .ok (.irem, 1) := by decide +kernel
theorem dX2_applyDraw_13 : decode cX2_applyDraw 13 = .ok (.istore_n 2, 1) := by decide +kernel
theorem dX2_applyDraw_14 : decode cX2_applyDraw 14 = .ok (.iload_n 1, 1) := by decide +kernel
theorem dX2_applyDraw_15 : decode cX2_applyDraw 15 = .ok (.iconst 3, 1) := by decide +kernel
theorem dX2_applyDraw_16 : decode cX2_applyDraw 16 = .ok (.irem, 1) := by decide +kernel
theorem dX2_applyDraw_17 : decode cX2_applyDraw 17 = .ok (.ifCond .ne 28, 3) := by decide +kernel
theorem dX2_applyDraw_20 : decode cX2_applyDraw 20 = .ok (.aload_n 0, 1) := by decide +kernel
theorem dX2_applyDraw_21 : decode cX2_applyDraw 21 = .ok (.getfield 14, 3) := by decide +kernel
theorem dX2_applyDraw_24 : decode cX2_applyDraw 24 = .ok (.getfield 122, 3) := by decide +kernel
theorem dX2_applyDraw_27 : decode cX2_applyDraw 27 = .ok (.iload_n 1, 1) := by decide +kernel
theorem dX2_applyDraw_28 : decode cX2_applyDraw 28 = .ok (.aload_n 0, 1) := by decide +kernel
theorem dX2_applyDraw_29 : decode cX2_applyDraw 29 = .ok (.getfield 14, 3) := by decide +kernel
theorem dX2_applyDraw_32 : decode cX2_applyDraw 32 = .ok (.getfield 115, 3) := by decide +kernel
theorem dX2_applyDraw_35 : decode cX2_applyDraw 35 = .ok (.iconst 1, 1) := by decide +kernel
theorem dX2_applyDraw_36 : decode cX2_applyDraw 36 = .ok (.invokestatic 71, 3) := by decide +kernel
theorem dX2_applyDraw_39 : decode cX2_applyDraw 39 = .ok (.irem, 1) := by decide +kernel
theorem dX2_applyDraw_40 : decode cX2_applyDraw 40 = .ok (.iload_n 2, 1) := by decide +kernel
theorem dX2_applyDraw_41 : decode cX2_applyDraw 41 = .ok (.iastore, 1) := by decide +kernel
theorem dX2_applyDraw_42 : decode cX2_applyDraw 42 = .ok (.goto 20, 3) := by decide +kernel
theorem dX2_applyDraw_45 : decode cX2_applyDraw 45 = .ok (.iload_n 1, 1) := by decide +kernel
theorem dX2_applyDraw_46 : decode cX2_applyDraw 46 = .ok (.iconst 5, 1) := by decide +kernel
theorem dX2_applyDraw_47 : decode cX2_applyDraw 47 = .ok (.irem, 1) := by decide +kernel
theorem dX2_applyDraw_48 : decode cX2_applyDraw 48 = .ok (.ifCond .ne 14, 3) := by decide +kernel
theorem dX2_applyDraw_51 : decode cX2_applyDraw 51 = .ok (.aload_n 0, 1) := by decide +kernel
theorem dX2_applyDraw_52 : decode cX2_applyDraw 52 = .ok (.getfield 14, 3) := by decide +kernel
theorem dX2_applyDraw_55 : decode cX2_applyDraw 55 = .ok (.getfield 84, 3) := by decide +kernel
theorem dX2_applyDraw_58 : decode cX2_applyDraw 58 = .ok (.iload_n 2, 1) := by decide +kernel
theorem dX2_applyDraw_59 : decode cX2_applyDraw 59 = .ok (.bipush 60, 2) := by decide +kernel
theorem dX2_applyDraw_61 : decode cX2_applyDraw 61 = .ok (.iastore, 1) := by decide +kernel
theorem dX2_applyDraw_62 : decode cX2_applyDraw 62 = .ok (.return_, 1) := by decide +kernel
theorem dX3_init_0 : decode cX3_init 0 = .ok (.aload_n 0, 1) := by decide +kernel
theorem dX3_init_1 : decode cX3_init 1 = .ok (.invokespecial 1, 3) := by decide +kernel
theorem dX3_init_4 : decode cX3_init 4 = .ok (.aload_n 0, 1) := by decide +kernel
theorem dX3_init_5 : decode cX3_init 5 = .ok (.bipush 8, 2) := by decide +kernel
theorem dX3_init_7 : decode cX3_init 7 = .ok (.bipush 40, 2) := by decide +kernel
theorem dX3_init_9 : decode cX3_init 9 = .ok (.multianewarray 9 2, 4) := by decide +kernel
theorem dX3_init_13 : decode cX3_init 13 = .ok (.putfield 11, 3) := by decide +kernel
theorem dX3_init_16 : decode cX3_init 16 = .ok (.aload_n 0, 1) := by decide +kernel
theorem dX3_init_17 : decode cX3_init 17 = .ok (.bipush 8, 2) := by decide +kernel
theorem dX3_init_19 : decode cX3_init 19 = .ok (.newarray .int, 2) := by decide +kernel
theorem dX3_init_21 : decode cX3_init 21 = .ok (.putfield 14, 3) := by decide +kernel
theorem dX3_init_24 : decode cX3_init 24 = .ok (.aload_n 0, 1) := by decide +kernel
theorem dX3_init_25 : decode cX3_init 25 = .ok (.bipush 8, 2) := by decide +kernel
theorem dX3_init_27 : decode cX3_init 27 = .ok (.newarray .int, 2) := by decide +kernel
theorem dX3_init_29 : decode cX3_init 29 = .ok (.putfield 18, 3) := by decide +kernel
theorem dX3_init_32 : decode cX3_init 32 = .ok (.aload_n 0, 1) := by decide +kernel
theorem dX3_init_33 : decode cX3_init 33 = .ok (.getfield 14, 3) := by decide +kernel
theorem dX3_init_36 : decode cX3_init 36 = .ok (.iconst (-1), 1) := by decide +kernel
theorem dX3_init_37 : decode cX3_init 37 = .ok (.invokestatic 21, 3) := by decide +kernel
theorem dX3_init_40 : decode cX3_init 40 = .ok (.return_, 1) := by decide +kernel
theorem dX3_isRow_0 : decode cX3_isRow 0 = .ok (.iload_n 0, 1) := by decide +kernel
theorem dX3_isRow_1 : decode cX3_isRow 1 = .ok (.ifCond .lt 13, 3) := by decide +kernel
theorem dX3_isRow_4 : decode cX3_isRow 4 = .ok (.iload_n 0, 1) := by decide +kernel
theorem dX3_isRow_5 : decode cX3_isRow 5 = .ok (.bipush 8, 2) := by decide +kernel
theorem dX3_isRow_7 : decode cX3_isRow 7 = .ok (.if_icmp .ge 7, 3) := by decide +kernel
theorem dX3_isRow_10 : decode cX3_isRow 10 = .ok (.iconst 1, 1) := by decide +kernel
theorem dX3_isRow_11 : decode cX3_isRow 11 = .ok (.goto 4, 3) := by decide +kernel
theorem dX3_isRow_14 : decode cX3_isRow 14 = .ok (.iconst 0, 1) := by decide +kernel
theorem dX3_isRow_15 : decode cX3_isRow 15 = .ok (.ireturn, 1) := by decide +kernel
theorem dX3_isMissing_0 : decode cX3_isMissing 0 = .ok (.aload_n 0, 1) := by decide +kernel
theorem dX3_isMissing_1 : decode cX3_isMissing 1 = .ok (.getfield 14, 3) := by decide +kernel
theorem dX3_isMissing_4 : decode cX3_isMissing 4 = .ok (.iload_n 1, 1) := by decide +kernel
theorem dX3_isMissing_5 : decode cX3_isMissing 5 = .ok (.iaload, 1) := by decide +kernel
theorem dX3_isMissing_6 : decode cX3_isMissing 6 = .ok (.iconst (-1), 1) := by decide +kernel
theorem dX3_isMissing_7 : decode cX3_isMissing 7 = .ok (.if_icmp .ne 7, 3) := by decide +kernel
theorem dX3_isMissing_10 : decode cX3_isMissing 10 = .ok (.iconst 1, 1) := by decide +kernel
theorem dX3_isMissing_11 : decode cX3_isMissing 11 = .ok (.goto 4, 3) := by decide +kernel
theorem dX3_isMissing_14 : decode cX3_isMissing 14 = .ok (.iconst 0, 1) := by decide +kernel
theorem dX3_isMissing_15 : decode cX3_isMissing 15 = .ok (.ireturn, 1) := by decide +kernel
theorem dX3_holds_0 : decode cX3_holds 0 = .ok (.iload_n 2, 1) := by decide +kernel
theorem dX3_holds_1 : decode cX3_holds 1 = .ok (.ifCond .lt 33, 3) := by decide +kernel
theorem dX3_holds_4 : decode cX3_holds 4 = .ok (.iload_n 3, 1) := by decide +kernel
theorem dX3_holds_5 : decode cX3_holds 5 = .ok (.ifCond .lt 29, 3) := by decide +kernel
theorem dX3_holds_8 : decode cX3_holds 8 = .ok (.iload_n 2, 1) := by decide +kernel
theorem dX3_holds_9 : decode cX3_holds 9 = .ok (.aload_n 0, 1) := by decide +kernel
theorem dX3_holds_10 : decode cX3_holds 10 = .ok (.getfield 18, 3) := by decide +kernel
theorem dX3_holds_13 : decode cX3_holds 13 = .ok (.iload_n 1, 1) := by decide +kernel
theorem dX3_holds_14 : decode cX3_holds 14 = .ok (.iaload, 1) := by decide +kernel
theorem dX3_holds_15 : decode cX3_holds 15 = .ok (.if_icmp .gt 19, 3) := by decide +kernel
theorem dX3_holds_18 : decode cX3_holds 18 = .ok (.iload_n 3, 1) := by decide +kernel
theorem dX3_holds_19 : decode cX3_holds 19 = .ok (.aload_n 0, 1) := by decide +kernel
theorem dX3_holds_20 : decode cX3_holds 20 = .ok (.getfield 18, 3) := by decide +kernel
theorem dX3_holds_23 : decode cX3_holds 23 = .ok (.iload_n 1, 1) := by decide +kernel
theorem dX3_holds_24 : decode cX3_holds 24 = .ok (.iaload, 1) := by decide +kernel
theorem dX3_holds_25 : decode cX3_holds 25 = .ok (.iload_n 2, 1) := by decide +kernel
theorem dX3_holds_26 : decode cX3_holds 26 = .ok (.isub, 1) := by decide +kernel
theorem dX3_holds_27 : decode cX3_holds 27 = .ok (.if_icmp .gt 7, 3) := by decide +kernel
theorem dX3_holds_30 : decode cX3_holds 30 = .ok (.iconst 1, 1) := by decide +kernel
theorem dX3_holds_31 : decode cX3_holds 31 = .ok (.goto 4, 3) := by decide +kernel
theorem dX3_holds_34 : decode cX3_holds 34 = .ok (.iconst 0, 1) := by decide +kernel
theorem dX3_holds_35 : decode cX3_holds 35 = .ok (.ireturn, 1) := by decide +kernel
theorem dX3_lay_0 : decode cX3_lay 0 = .ok (.aload_n 0, 1) := by decide +kernel
theorem dX3_lay_1 : decode cX3_lay 1 = .ok (.getfield 11, 3) := by decide +kernel
theorem dX3_lay_4 : decode cX3_lay 4 = .ok (.iload_n 1, 1) := by decide +kernel
theorem dX3_lay_5 : decode cX3_lay 5 = .ok (.aaload, 1) := by decide +kernel
theorem dX3_lay_6 : decode cX3_lay 6 = .ok (.iconst 0, 1) := by decide +kernel
theorem dX3_lay_7 : decode cX3_lay 7 = .ok (.invokestatic 21, 3) := by decide +kernel
theorem dX3_lay_10 : decode cX3_lay 10 = .ok (.aload_n 0, 1) := by decide +kernel
theorem dX3_lay_11 : decode cX3_lay 11 = .ok (.getfield 14, 3) := by decide +kernel
theorem dX3_lay_14 : decode cX3_lay 14 = .ok (.iload_n 1, 1) := by decide +kernel
theorem dX3_lay_15 : decode cX3_lay 15 = .ok (.iload_n 2, 1) := by decide +kernel
theorem dX3_lay_16 : decode cX3_lay 16 = .ok (.iastore, 1) := by decide +kernel
theorem dX3_lay_17 : decode cX3_lay 17 = .ok (.aload_n 0, 1) := by decide +kernel
theorem dX3_lay_18 : decode cX3_lay 18 = .ok (.getfield 18, 3) := by decide +kernel
theorem dX3_lay_21 : decode cX3_lay 21 = .ok (.iload_n 1, 1) := by decide +kernel
theorem dX3_lay_22 : decode cX3_lay 22 = .ok (.iload_n 3, 1) := by decide +kernel
theorem dX3_lay_23 : decode cX3_lay 23 = .ok (.iastore, 1) := by decide +kernel
theorem dX3_lay_24 : decode cX3_lay 24 = .ok (.return_, 1) := by decide +kernel
theorem dX3_put_0 : decode cX3_put 0 = .ok (.aload_n 0, 1) := by decide +kernel
theorem dX3_put_1 : decode cX3_put 1 = .ok (.getfield 14, 3) := by decide +kernel
theorem dX3_put_4 : decode cX3_put 4 = .ok (.iload_n 1, 1) := by decide +kernel
theorem dX3_put_5 : decode cX3_put 5 = .ok (.iaload, 1) := by decide +kernel
theorem dX3_put_6 : decode cX3_put 6 = .ok (.ifCond .ne 8, 3) := by decide +kernel
theorem dX3_put_9 : decode cX3_put 9 = .ok (.iload_n 3, 1) := by decide +kernel
theorem dX3_put_10 : decode cX3_put 10 = .ok (.i2b, 1) := by decide +kernel
theorem dX3_put_11 : decode cX3_put 11 = .ok (.goto 19, 3) := by decide +kernel
theorem dX3_put_14 : decode cX3_put 14 = .ok (.aload_n 0, 1) := by decide +kernel
theorem dX3_put_15 : decode cX3_put 15 = .ok (.getfield 14, 3) := by decide +kernel
theorem dX3_put_18 : decode cX3_put 18 = .ok (.iload_n 1, 1) := by decide +kernel
theorem dX3_put_19 : decode cX3_put 19 = .ok (.iaload, 1) := by decide +kernel
theorem dX3_put_20 : decode cX3_put 20 = .ok (.iconst 1, 1) := by decide +kernel
theorem dX3_put_21 : decode cX3_put 21 = .ok (.if_icmp .ne 8, 3) := by decide +kernel
theorem dX3_put_24 : decode cX3_put 24 = .ok (.iload_n 3, 1) := by decide +kernel
theorem dX3_put_25 : decode cX3_put 25 = .ok (.i2s, 1) := by decide +kernel
theorem dX3_put_26 : decode cX3_put 26 = .ok (.goto 4, 3) := by decide +kernel
theorem dX3_put_29 : decode cX3_put 29 = .ok (.iload_n 3, 1) := by decide +kernel
theorem dX3_put_30 : decode cX3_put 30 = .ok (.istore 4, 2) := by decide +kernel
theorem dX3_put_32 : decode cX3_put 32 = .ok (.aload_n 0, 1) := by decide +kernel
theorem dX3_put_33 : decode cX3_put 33 = .ok (.getfield 11, 3) := by decide +kernel
theorem dX3_put_36 : decode cX3_put 36 = .ok (.iload_n 1, 1) := by decide +kernel
theorem dX3_put_37 : decode cX3_put 37 = .ok (.aaload, 1) := by decide +kernel
theorem dX3_put_38 : decode cX3_put 38 = .ok (.iload_n 2, 1) := by decide +kernel
theorem dX3_put_39 : decode cX3_put 39 = .ok (.iload 4, 2) := by decide +kernel
theorem dX3_put_41 : decode cX3_put 41 = .ok (.iastore, 1) := by decide +kernel
theorem dX3_put_42 : decode cX3_put 42 = .ok (.iload 4, 2) := by decide +kernel
theorem dX3_put_44 : decode cX3_put 44 = .ok (.ireturn, 1) := by decide +kernel
theorem dX3_takeAway_0 : decode cX3_takeAway 0 = .ok (.aload_n 0, 1) := by decide +kernel
theorem dX3_takeAway_1 : decode cX3_takeAway 1 = .ok (.getfield 18, 3) := by decide +kernel
theorem dX3_takeAway_4 : decode cX3_takeAway 4 = .ok (.iload_n 1, 1) := by decide +kernel
theorem dX3_takeAway_5 : decode cX3_takeAway 5 = .ok (.iaload, 1) := by decide +kernel
theorem dX3_takeAway_6 : decode cX3_takeAway 6 = .ok (.istore_n 2, 1) := by decide +kernel
theorem dX3_takeAway_7 : decode cX3_takeAway 7 = .ok (.aload_n 0, 1) := by decide +kernel
theorem dX3_takeAway_8 : decode cX3_takeAway 8 = .ok (.getfield 14, 3) := by decide +kernel
theorem dX3_takeAway_11 : decode cX3_takeAway 11 = .ok (.iload_n 1, 1) := by decide +kernel
theorem dX3_takeAway_12 : decode cX3_takeAway 12 = .ok (.iconst (-1), 1) := by decide +kernel
theorem dX3_takeAway_13 : decode cX3_takeAway 13 = .ok (.iastore, 1) := by decide +kernel
theorem dX3_takeAway_14 : decode cX3_takeAway 14 = .ok (.aload_n 0, 1) := by decide +kernel
theorem dX3_takeAway_15 : decode cX3_takeAway 15 = .ok (.getfield 18, 3) := by decide +kernel
theorem dX3_takeAway_18 : decode cX3_takeAway 18 = .ok (.iload_n 1, 1) := by decide +kernel
theorem dX3_takeAway_19 : decode cX3_takeAway 19 = .ok (.iconst 0, 1) := by decide +kernel
theorem dX3_takeAway_20 : decode cX3_takeAway 20 = .ok (.iastore, 1) := by decide +kernel
theorem dX3_takeAway_21 : decode cX3_takeAway 21 = .ok (.iload_n 2, 1) := by decide +kernel
theorem dX3_takeAway_22 : decode cX3_takeAway 22 = .ok (.ireturn, 1) := by decide +kernel
theorem dX3_howMany_0 : decode cX3_howMany 0 = .ok (.iconst 0, 1) := by decide +kernel
theorem dX3_howMany_1 : decode cX3_howMany 1 = .ok (.istore_n 1, 1) := by decide +kernel
theorem dX3_howMany_2 : decode cX3_howMany 2 = .ok (.iconst 0, 1) := by decide +kernel
theorem dX3_howMany_3 : decode cX3_howMany 3 = .ok (.istore_n 2, 1) := by decide +kernel
theorem dX3_howMany_4 : decode cX3_howMany 4 = .ok (.iload_n 2, 1) := by decide +kernel
theorem dX3_howMany_5 : decode cX3_howMany 5 = .ok (.bipush 8, 2) := by decide +kernel
theorem dX3_howMany_7 : decode cX3_howMany 7 = .ok (.if_icmp .ge 25, 3) := by decide +kernel
theorem dX3_howMany_10 : decode cX3_howMany 10 = .ok (.iload_n 1, 1) := by decide +kernel
theorem dX3_howMany_11 : decode cX3_howMany 11 = .ok (.aload_n 0, 1) := by decide +kernel
theorem dX3_howMany_12 : decode cX3_howMany 12 = .ok (.iload_n 2, 1) := by decide +kernel
theorem dX3_howMany_13 : decode cX3_howMany 13 = .ok (.invokevirtual 27, 3) := by decide +kernel
theorem dX3_howMany_16 : decode cX3_howMany 16 = .ok (.ifCond .eq 7, 3) := by decide +kernel
theorem dX3_howMany_19 : decode cX3_howMany 19 = .ok (.iconst 0, 1) := by decide +kernel
theorem dX3_howMany_20 : decode cX3_howMany 20 = .ok (.goto 4, 3) := by decide +kernel
theorem dX3_howMany_23 : decode cX3_howMany 23 = .ok (.iconst 1, 1) := by decide +kernel
theorem dX3_howMany_24 : decode cX3_howMany 24 = .ok (.iadd, 1) := by decide +kernel
theorem dX3_howMany_25 : decode cX3_howMany 25 = .ok (.istore_n 1, 1) := by decide +kernel
theorem dX3_howMany_26 : decode cX3_howMany 26 = .ok (.iinc 2 1, 3) := by decide +kernel
theorem dX3_howMany_29 : decode cX3_howMany 29 = .ok (.goto (-25), 3) := by decide +kernel
theorem dX3_howMany_32 : decode cX3_howMany 32 = .ok (.iload_n 1, 1) := by decide +kernel
theorem dX3_howMany_33 : decode cX3_howMany 33 = .ok (.ireturn, 1) := by decide +kernel
theorem dX4_init_0 : decode cX4_init 0 = .ok (.aload_n 0, 1) := by decide +kernel
theorem dX4_init_1 : decode cX4_init 1 = .ok (.invokespecial 1, 3) := by decide +kernel
theorem dX4_init_4 : decode cX4_init 4 = .ok (.aload_n 0, 1) := by decide +kernel
theorem dX4_init_5 : decode cX4_init 5 = .ok (.bipush 110, 2) := by decide +kernel
theorem dX4_init_7 : decode cX4_init 7 = .ok (.newarray .int, 2) := by decide +kernel
theorem dX4_init_9 : decode cX4_init 9 = .ok (.putfield 9, 3) := by decide +kernel
theorem dX4_init_12 : decode cX4_init 12 = .ok (.return_, 1) := by decide +kernel
theorem dX4_append_0 : decode cX4_append 0 = .ok (.aload_n 0, 1) := by decide +kernel
theorem dX4_append_1 : decode cX4_append 1 = .ok (.getfield 13, 3) := by decide +kernel
theorem dX4_append_4 : decode cX4_append 4 = .ok (.bipush 110, 2) := by decide +kernel
theorem dX4_append_6 : decode cX4_append 6 = .ok (.if_icmp .lt 5, 3) := by decide +kernel
theorem dX4_append_9 : decode cX4_append 9 = .ok (.iconst 0, 1) := by decide +kernel
theorem dX4_append_10 : decode cX4_append 10 = .ok (.ireturn, 1) := by decide +kernel
theorem dX4_append_11 : decode cX4_append 11 = .ok (.aload_n 0, 1) := by decide +kernel
theorem dX4_append_12 : decode cX4_append 12 = .ok (.getfield 9, 3) := by decide +kernel
theorem dX4_append_15 : decode cX4_append 15 = .ok (.aload_n 0, 1) := by decide +kernel
theorem dX4_append_16 : decode cX4_append 16 = .ok (.getfield 13, 3) := by decide +kernel
theorem dX4_append_19 : decode cX4_append 19 = .ok (.iload_n 1, 1) := by decide +kernel
theorem dX4_append_20 : decode cX4_append 20 = .ok (.iastore, 1) := by decide +kernel
theorem dX4_append_21 : decode cX4_append 21 = .ok (.aload_n 0, 1) := by decide +kernel
theorem dX4_append_22 : decode cX4_append 22 = .ok (.dup, 1) := by decide +kernel
theorem dX4_append_23 : decode cX4_append 23 = .ok (.getfield 13, 3) := by decide +kernel
theorem dX4_append_26 : decode cX4_append 26 = .ok (.iconst 1, 1) := by decide +kernel
theorem dX4_append_27 : decode cX4_append 27 = .ok (.iadd, 1) := by decide +kernel
theorem dX4_append_28 : decode cX4_append 28 = .ok (.putfield 13, 3) := by decide +kernel
theorem dX4_append_31 : decode cX4_append 31 = .ok (.iconst 1, 1) := by decide +kernel
theorem dX4_append_32 : decode cX4_append 32 = .ok (.ireturn, 1) := by decide +kernel
theorem dX4_readInto_0 : decode cX4_readInto 0 = .ok (.aload_n 0, 1) := by decide +kernel
theorem dX4_readInto_1 : decode cX4_readInto 1 = .ok (.iconst 0, 1) := by decide +kernel
theorem dX4_readInto_2 : decode cX4_readInto 2 = .ok (.putfield 17, 3) := by decide +kernel
theorem dX4_readInto_5 : decode cX4_readInto 5 = .ok (.aload_n 1, 1) := by decide +kernel
theorem dX4_readInto_6 : decode cX4_readInto 6 = .ok (.invokevirtual 20, 3) := by decide +kernel
theorem dX4_readInto_9 : decode cX4_readInto 9 = .ok (.aload_n 0, 1) := by decide +kernel
theorem dX4_readInto_10 : decode cX4_readInto 10 = .ok (.aload_n 1, 1) := by decide +kernel
theorem dX4_readInto_11 : decode cX4_readInto 11 = .ok (.invokevirtual 25, 3) := by decide +kernel
theorem dX4_readInto_14 : decode cX4_readInto 14 = .ok (.ifCond .eq 23, 3) := by decide +kernel
theorem dX4_readInto_17 : decode cX4_readInto 17 = .ok (.aload_n 0, 1) := by decide +kernel
theorem dX4_readInto_18 : decode cX4_readInto 18 = .ok (.aload_n 1, 1) := by decide +kernel
theorem dX4_readInto_19 : decode cX4_readInto 19 = .ok (.invokevirtual 29, 3) := by decide +kernel
theorem dX4_readInto_22 : decode cX4_readInto 22 = .ok (.ifCond .eq 15, 3) := by decide +kernel
theorem dX4_readInto_25 : decode cX4_readInto 25 = .ok (.aload_n 0, 1) := by decide +kernel
theorem dX4_readInto_26 : decode cX4_readInto 26 = .ok (.aload_n 1, 1) := by decide +kernel
theorem dX4_readInto_27 : decode cX4_readInto 27 = .ok (.invokevirtual 32, 3) := by decide +kernel
theorem dX4_readInto_30 : decode cX4_readInto 30 = .ok (.ifCond .eq 7, 3) := by decide +kernel
theorem dX4_readInto_33 : decode cX4_readInto 33 = .ok (.iconst 1, 1) := by decide +kernel
theorem dX4_readInto_34 : decode cX4_readInto 34 = .ok (.goto 4, 3) := by decide +kernel
theorem dX4_readInto_37 : decode cX4_readInto 37 = .ok (.iconst 0, 1) := by decide +kernel
theorem dX4_readInto_38 : decode cX4_readInto 38 = .ok (.ireturn, 1) := by decide +kernel
theorem dX4_readLaw_0 : decode cX4_readLaw 0 = .ok (.aload_n 0, 1) := by decide +kernel
theorem dX4_readLaw_1 : decode cX4_readLaw 1 = .ok (.bipush 100, 2) := by decide +kernel
theorem dX4_readLaw_3 : decode cX4_readLaw 3 = .ok (.invokevirtual 35, 3) := by decide +kernel
theorem dX4_readLaw_6 : decode cX4_readLaw 6 = .ok (.ifCond .ne 5, 3) := by decide +kernel
theorem dX4_readLaw_9 : decode cX4_readLaw 9 = .ok (.iconst 0, 1) := by decide +kernel
theorem dX4_readLaw_10 : decode cX4_readLaw 10 = .ok (.ireturn, 1) := by decide +kernel
theorem dX4_readLaw_11 : decode cX4_readLaw 11 = .ok (.aload_n 1, 1) := by decide +kernel
theorem dX4_readLaw_12 : decode cX4_readLaw 12 = .ok (.aload_n 0, 1) := by decide +kernel
theorem dX4_readLaw_13 : decode cX4_readLaw 13 = .ok (.iconst 3, 1) := by decide +kernel
theorem dX4_readLaw_14 : decode cX4_readLaw 14 = .ok (.invokevirtual 39, 3) := by decide +kernel
theorem dX4_readLaw_17 : decode cX4_readLaw 17 = .ok (.putfield 43, 3) := by decide +kernel
theorem dX4_readLaw_20 : decode cX4_readLaw 20 = .ok (.aload_n 1, 1) := by decide +kernel
theorem dX4_readLaw_21 : decode cX4_readLaw 21 = .ok (.getfield 43, 3) := by decide +kernel
theorem dX4_readLaw_24 : decode cX4_readLaw 24 = .ok (.iconst (-1), 1) := by decide +kernel
theorem dX4_readLaw_25 : decode cX4_readLaw 25 = .ok (.if_icmp .eq 12, 3) := by decide +kernel
theorem dX4_readLaw_28 : decode cX4_readLaw 28 = .ok (.aload_n 0, 1) := by decide +kernel
theorem dX4_readLaw_29 : decode cX4_readLaw 29 = .ok (.bipush 44, 2) := by decide +kernel
theorem dX4_readLaw_31 : decode cX4_readLaw 31 = .ok (.invokevirtual 35, 3) := by decide +kernel
theorem dX4_readLaw_34 : decode cX4_readLaw 34 = .ok (.ifCond .ne 5, 3) := by decide +kernel
theorem dX4_readLaw_37 : decode cX4_readLaw 37 = .ok (.iconst 0, 1) := by decide +kernel
theorem dX4_readLaw_38 : decode cX4_readLaw 38 = .ok (.ireturn, 1) := by decide +kernel
theorem dX4_readLaw_39 : decode cX4_readLaw 39 = .ok (.aload_n 1, 1) := by decide +kernel
theorem dX4_readLaw_40 : decode cX4_readLaw 40 = .ok (.aload_n 0, 1) := by decide +kernel
theorem dX4_readLaw_41 : decode cX4_readLaw 41 = .ok (.bipush 9, 2) := by decide +kernel
theorem dX4_readLaw_43 : decode cX4_readLaw 43 = .ok (.invokevirtual 39, 3) := by decide +kernel
theorem dX4_readLaw_46 : decode cX4_readLaw 46 = .ok (.putfield 46, 3) := by decide +kernel
theorem dX4_readLaw_49 : decode cX4_readLaw 49 = .ok (.aload_n 1, 1) := by decide +kernel
theorem dX4_readLaw_50 : decode cX4_readLaw 50 = .ok (.getfield 46, 3) := by decide +kernel
theorem dX4_readLaw_53 : decode cX4_readLaw 53 = .ok (.iconst (-1), 1) := by decide +kernel
theorem dX4_readLaw_54 : decode cX4_readLaw 54 = .ok (.if_icmp .eq 16, 3) := by decide +kernel
theorem dX4_readLaw_57 : decode cX4_readLaw 57 = .ok (.aload_n 0, 1) := by decide +kernel
theorem dX4_readLaw_58 : decode cX4_readLaw 58 = .ok (.bipush 59, 2) := by decide +kernel
theorem dX4_readLaw_60 : decode cX4_readLaw 60 = .ok (.invokevirtual 35, 3) := by decide +kernel
theorem dX4_readLaw_63 : decode cX4_readLaw 63 = .ok (.ifCond .eq 7, 3) := by decide +kernel
theorem dX4_readLaw_66 : decode cX4_readLaw 66 = .ok (.iconst 1, 1) := by decide +kernel
theorem dX4_readLaw_67 : decode cX4_readLaw 67 = .ok (.goto 4, 3) := by decide +kernel
theorem dX4_readLaw_70 : decode cX4_readLaw 70 = .ok (.iconst 0, 1) := by decide +kernel
theorem dX4_readLaw_71 : decode cX4_readLaw 71 = .ok (.ireturn, 1) := by decide +kernel
theorem dX4_readStreets_0 : decode cX4_readStreets 0 = .ok (.iconst 0, 1) := by decide +kernel
theorem dX4_readStreets_1 : decode cX4_readStreets 1 = .ok (.istore_n 2, 1) := by decide +kernel
theorem dX4_readStreets_2 : decode cX4_readStreets 2 = .ok (.iload_n 2, 1) := by decide +kernel
theorem dX4_readStreets_3 : decode cX4_readStreets 3 = .ok (.bipush 8, 2) := by decide +kernel
theorem dX4_readStreets_5 : decode cX4_readStreets 5 = .ok (.if_icmp .gt 50, 3) := by decide +kernel
theorem dX4_readStreets_8 : decode cX4_readStreets 8 = .ok (.iload_n 2, 1) := by decide +kernel
theorem dX4_readStreets_9 : decode cX4_readStreets 9 = .ok (.ifCond .le 30, 3) := by decide +kernel
theorem dX4_readStreets_12 : decode cX4_readStreets 12 = .ok (.aload_n 0, 1) := by decide +kernel
theorem dX4_readStreets_13 : decode cX4_readStreets 13 = .ok (.getfield 17, 3) := by decide +kernel
theorem dX4_readStreets_16 : decode cX4_readStreets 16 = .ok (.aload_n 0, 1) := by decide +kernel
theorem dX4_readStreets_17 : decode cX4_readStreets 17 = .ok (.getfield 13, 3) := by decide +kernel
theorem dX4_readStreets_20 : decode cX4_readStreets 20 = .ok (.if_icmp .ge 17, 3) := by decide +kernel
theorem dX4_readStreets_23 : decode cX4_readStreets 23 = .ok (.aload_n 0, 1) := by decide +kernel
theorem dX4_readStreets_24 : decode cX4_readStreets 24 = .ok (.getfield 9, 3) := by decide +kernel
theorem dX4_readStreets_27 : decode cX4_readStreets 27 = .ok (.aload_n 0, 1) := by decide +kernel
theorem dX4_readStreets_28 : decode cX4_readStreets 28 = .ok (.getfield 17, 3) := by decide +kernel
theorem dX4_readStreets_31 : decode cX4_readStreets 31 = .ok (.iaload, 1) := by decide +kernel
theorem dX4_readStreets_32 : decode cX4_readStreets 32 = .ok (.bipush 114, 2) := by decide +kernel
theorem dX4_readStreets_34 : decode cX4_readStreets 34 = .ok (.if_icmp .ne 5, 3) := by decide +kernel
theorem dX4_readStreets_37 : decode cX4_readStreets 37 = .ok (.iconst 1, 1) := by decide +kernel
theorem dX4_readStreets_38 : decode cX4_readStreets 38 = .ok (.ireturn, 1) := by decide +kernel
theorem dX4_readStreets_39 : decode cX4_readStreets 39 = .ok (.aload_n 0, 1) := by decide +kernel
theorem dX4_readStreets_40 : decode cX4_readStreets 40 = .ok (.aload_n 1, 1) := by decide +kernel
theorem dX4_readStreets_41 : decode cX4_readStreets 41 = .ok (.invokevirtual 49, 3) := by decide +kernel
theorem dX4_readStreets_44 : decode cX4_readStreets 44 = .ok (.ifCond .ne 5, 3) := by decide +kernel
theorem dX4_readStreets_47 : decode cX4_readStreets 47 = .ok (.iconst 0, 1) := by decide +kernel
theorem dX4_readStreets_48 : decode cX4_readStreets 48 = .ok (.ireturn, 1) := by decide +kernel
theorem dX4_readStreets_49 : decode cX4_readStreets 49 = .ok (.iinc 2 1, 3) := by decide +kernel
theorem dX4_readStreets_52 : decode cX4_readStreets 52 = .ok (.goto (-50), 3) := by decide +kernel
theorem dX4_readStreets_55 : decode cX4_readStreets 55 = .ok (.iconst 0, 1) := by decide +kernel
theorem dX4_readStreets_56 : decode cX4_readStreets 56 = .ok (.ireturn, 1) := by decide +kernel
theorem dX4_readStreet_0 : decode cX4_readStreet 0 = .ok (.aload_n 0, 1) := by decide +kernel
theorem dX4_readStreet_1 : decode cX4_readStreet 1 = .ok (.getfield 17, 3) := by decide +kernel
theorem dX4_readStreet_4 : decode cX4_readStreet 4 = .ok (.aload_n 0, 1) := by decide +kernel
theorem dX4_readStreet_5 : decode cX4_readStreet 5 = .ok (.getfield 13, 3) := by decide +kernel
theorem dX4_readStreet_8 : decode cX4_readStreet 8 = .ok (.if_icmp .ge 23, 3) := by decide +kernel
theorem dX4_readStreet_11 : decode cX4_readStreet 11 = .ok (.ldc 52, 2) := by decide +kernel
theorem dX4_readStreet_13 : decode cX4_readStreet 13 = .ok (.aload_n 0, 1) := by decide +kernel
theorem dX4_readStreet_14 : decode cX4_readStreet 14 = .ok (.getfield 9, 3) := by decide +kernel
theorem dX4_readStreet_17 : decode cX4_readStreet 17 = .ok (.aload_n 0, 1) := by decide +kernel
theorem dX4_readStreet_18 : decode cX4_readStreet 18 = .ok (.getfield 17, 3) := by decide +kernel
theorem dX4_readStreet_21 : decode cX4_readStreet 21 = .ok (.iaload, 1) := by decide +kernel
theorem dX4_readStreet_22 : decode cX4_readStreet 22 = .ok (.i2c, 1) := by decide +kernel
theorem dX4_readStreet_23 : decode cX4_readStreet 23 = .ok (.invokevirtual 54, 3) := by decide +kernel
theorem dX4_readStreet_26 : decode cX4_readStreet 26 = .ok (.iconst 1, 1) := by decide +kernel
theorem dX4_readStreet_27 : decode cX4_readStreet 27 = .ok (.iadd, 1) := by decide +kernel
theorem dX4_readStreet_28 : decode cX4_readStreet 28 = .ok (.goto 4, 3) := by decide +kernel
theorem dX4_readStreet_31 : decode cX4_readStreet 31 = .ok (.iconst 0, 1) := by decide +kernel
theorem dX4_readStreet_32 : decode cX4_readStreet 32 = .ok (.istore_n 2, 1) := by decide +kernel
theorem dX4_readStreet_33 : decode cX4_readStreet 33 = .ok (.iload_n 2, 1) := by decide +kernel
theorem dX4_readStreet_34 : decode cX4_readStreet 34 = .ok (.iconst 1, 1) := by decide +kernel
theorem dX4_readStreet_35 : decode cX4_readStreet 35 = .ok (.if_icmp .ge 9, 3) := by decide +kernel
theorem dX4_readStreet_38 : decode cX4_readStreet 38 = .ok (.aload_n 0, 1) := by decide +kernel
theorem dX4_readStreet_39 : decode cX4_readStreet 39 = .ok (.iconst 1, 1) := by decide +kernel
theorem dX4_readStreet_40 : decode cX4_readStreet 40 = .ok (.invokevirtual 59, 3) := by decide +kernel
theorem dX4_readStreet_43 : decode cX4_readStreet 43 = .ok (.ireturn, 1) := by decide +kernel
theorem dX4_readStreet_44 : decode cX4_readStreet 44 = .ok (.aload_n 1, 1) := by decide +kernel
theorem dX4_readStreet_45 : decode cX4_readStreet 45 = .ok (.getfield 62, 3) := by decide +kernel
theorem dX4_readStreet_48 : decode cX4_readStreet 48 = .ok (.istore_n 3, 1) := by decide +kernel
theorem dX4_readStreet_49 : decode cX4_readStreet 49 = .ok (.iload_n 3, 1) := by decide +kernel
theorem dX4_readStreet_50 : decode cX4_readStreet 50 = .ok (.bipush 8, 2) := by decide +kernel
theorem dX4_readStreet_52 : decode cX4_readStreet 52 = .ok (.if_icmp .lt 9, 3) := by decide +kernel
theorem dX4_readStreet_55 : decode cX4_readStreet 55 = .ok (.aload_n 0, 1) := by decide +kernel
theorem dX4_readStreet_56 : decode cX4_readStreet 56 = .ok (.iconst 3, 1) := by decide +kernel
theorem dX4_readStreet_57 : decode cX4_readStreet 57 = .ok (.invokevirtual 59, 3) := by decide +kernel
theorem dX4_readStreet_60 : decode cX4_readStreet 60 = .ok (.ireturn, 1) := by decide +kernel
theorem dX4_readStreet_61 : decode cX4_readStreet 61 = .ok (.aload_n 0, 1) := by decide +kernel
theorem dX4_readStreet_62 : decode cX4_readStreet 62 = .ok (.dup, 1) := by decide +kernel
theorem dX4_readStreet_63 : decode cX4_readStreet 63 = .ok (.getfield 17, 3) := by decide +kernel
theorem dX4_readStreet_66 : decode cX4_readStreet 66 = .ok (.iconst 1, 1) := by decide +kernel
theorem dX4_readStreet_67 : decode cX4_readStreet 67 = .ok (.iadd, 1) := by decide +kernel
theorem dX4_readStreet_68 : decode cX4_readStreet 68 = .ok (.putfield 17, 3) := by decide +kernel
theorem dX4_readStreet_71 : decode cX4_readStreet 71 = .ok (.aload_n 0, 1) := by decide +kernel
theorem dX4_readStreet_72 : decode cX4_readStreet 72 = .ok (.bipush 20, 2) := by decide +kernel
theorem dX4_readStreet_74 : decode cX4_readStreet 74 = .ok (.invokevirtual 39, 3) := by decide +kernel
theorem dX4_readStreet_77 : decode cX4_readStreet 77 = .ok (.istore 4, 2) := by decide +kernel
theorem dX4_readStreet_79 : decode cX4_readStreet 79 = .ok (.iload 4, 2) := by decide +kernel
theorem dX4_readStreet_81 : decode cX4_readStreet 81 = .ok (.iconst (-1), 1) := by decide +kernel
theorem dX4_readStreet_82 : decode cX4_readStreet 82 = .ok (.if_icmp .eq 12, 3) := by decide +kernel
theorem dX4_readStreet_85 : decode cX4_readStreet 85 = .ok (.aload_n 0, 1) := by decide +kernel
theorem dX4_readStreet_86 : decode cX4_readStreet 86 = .ok (.bipush 44, 2) := by decide +kernel
theorem dX4_readStreet_88 : decode cX4_readStreet 88 = .ok (.invokevirtual 35, 3) := by decide +kernel
theorem dX4_readStreet_91 : decode cX4_readStreet 91 = .ok (.ifCond .ne 5, 3) := by decide +kernel
theorem dX4_readStreet_94 : decode cX4_readStreet 94 = .ok (.iconst 0, 1) := by decide +kernel
theorem dX4_readStreet_95 : decode cX4_readStreet 95 = .ok (.ireturn, 1) := by decide +kernel
theorem dX4_readStreet_96 : decode cX4_readStreet 96 = .ok (.aload_n 0, 1) := by decide +kernel
theorem dX4_readStreet_97 : decode cX4_readStreet 97 = .ok (.bipush 60, 2) := by decide +kernel
theorem dX4_readStreet_99 : decode cX4_readStreet 99 = .ok (.invokevirtual 39, 3) := by decide +kernel
theorem dX4_readStreet_102 : decode cX4_readStreet 102 = .ok (.istore 5, 2) := by decide +kernel
theorem dX4_readStreet_104 : decode cX4_readStreet 104 = .ok (.iload 5, 2) := by decide +kernel
theorem dX4_readStreet_106 : decode cX4_readStreet 106 = .ok (.iconst (-1), 1) := by decide +kernel
theorem dX4_readStreet_107 : decode cX4_readStreet 107 = .ok (.if_icmp .eq 12, 3) := by decide +kernel
theorem dX4_readStreet_110 : decode cX4_readStreet 110 = .ok (.aload_n 0, 1) := by decide +kernel
theorem dX4_readStreet_111 : decode cX4_readStreet 111 = .ok (.bipush 59, 2) := by decide +kernel
theorem dX4_readStreet_113 : decode cX4_readStreet 113 = .ok (.invokevirtual 35, 3) := by decide +kernel
theorem dX4_readStreet_116 : decode cX4_readStreet 116 = .ok (.ifCond .ne 5, 3) := by decide +kernel
theorem dX4_readStreet_119 : decode cX4_readStreet 119 = .ok (.iconst 0, 1) := by decide +kernel
theorem dX4_readStreet_120 : decode cX4_readStreet 120 = .ok (.ireturn, 1) := by decide +kernel
theorem dX4_readStreet_121 : decode cX4_readStreet 121 = .ok (.aload_n 1, 1) := by decide +kernel
theorem dX4_readStreet_122 : decode cX4_readStreet 122 = .ok (.getfield 65, 3) := by decide +kernel
theorem dX4_readStreet_125 : decode cX4_readStreet 125 = .ok (.iload_n 3, 1) := by decide +kernel
theorem dX4_readStreet_126 : decode cX4_readStreet 126 = .ok (.iload_n 2, 1) := by decide +kernel
theorem dX4_readStreet_127 : decode cX4_readStreet 127 = .ok (.iastore, 1) := by decide +kernel
theorem dX4_readStreet_128 : decode cX4_readStreet 128 = .ok (.aload_n 1, 1) := by decide +kernel
theorem dX4_readStreet_129 : decode cX4_readStreet 129 = .ok (.getfield 68, 3) := by decide +kernel
theorem dX4_readStreet_132 : decode cX4_readStreet 132 = .ok (.iload_n 3, 1) := by decide +kernel
theorem dX4_readStreet_133 : decode cX4_readStreet 133 = .ok (.iload 4, 2) := by decide +kernel
theorem dX4_readStreet_135 : decode cX4_readStreet 135 = .ok (.iastore, 1) := by decide +kernel
theorem dX4_readStreet_136 : decode cX4_readStreet 136 = .ok (.aload_n 1, 1) := by decide +kernel
theorem dX4_readStreet_137 : decode cX4_readStreet 137 = .ok (.getfield 71, 3) := by decide +kernel
theorem dX4_readStreet_140 : decode cX4_readStreet 140 = .ok (.iload_n 3, 1) := by decide +kernel
theorem dX4_readStreet_141 : decode cX4_readStreet 141 = .ok (.iload 5, 2) := by decide +kernel
theorem dX4_readStreet_143 : decode cX4_readStreet 143 = .ok (.iastore, 1) := by decide +kernel
theorem dX4_readStreet_144 : decode cX4_readStreet 144 = .ok (.aload_n 1, 1) := by decide +kernel
theorem dX4_readStreet_145 : decode cX4_readStreet 145 = .ok (.dup, 1) := by decide +kernel
theorem dX4_readStreet_146 : decode cX4_readStreet 146 = .ok (.getfield 62, 3) := by decide +kernel
theorem dX4_readStreet_149 : decode cX4_readStreet 149 = .ok (.iconst 1, 1) := by decide +kernel
theorem dX4_readStreet_150 : decode cX4_readStreet 150 = .ok (.iadd, 1) := by decide +kernel
theorem dX4_readStreet_151 : decode cX4_readStreet 151 = .ok (.putfield 62, 3) := by decide +kernel
theorem dX4_readStreet_154 : decode cX4_readStreet 154 = .ok (.iconst 1, 1) := by decide +kernel
theorem dX4_readStreet_155 : decode cX4_readStreet 155 = .ok (.ireturn, 1) := by decide +kernel
theorem dX4_readBeats_0 : decode cX4_readBeats 0 = .ok (.iconst 0, 1) := by decide +kernel
theorem dX4_readBeats_1 : decode cX4_readBeats 1 = .ok (.istore_n 2, 1) := by decide +kernel
theorem dX4_readBeats_2 : decode cX4_readBeats 2 = .ok (.iload_n 2, 1) := by decide +kernel
theorem dX4_readBeats_3 : decode cX4_readBeats 3 = .ok (.bipush 8, 2) := by decide +kernel
theorem dX4_readBeats_5 : decode cX4_readBeats 5 = .ok (.if_icmp .gt 36, 3) := by decide +kernel
theorem dX4_readBeats_8 : decode cX4_readBeats 8 = .ok (.iload_n 2, 1) := by decide +kernel
theorem dX4_readBeats_9 : decode cX4_readBeats 9 = .ok (.ifCond .le 16, 3) := by decide +kernel
theorem dX4_readBeats_12 : decode cX4_readBeats 12 = .ok (.aload_n 0, 1) := by decide +kernel
theorem dX4_readBeats_13 : decode cX4_readBeats 13 = .ok (.getfield 17, 3) := by decide +kernel
theorem dX4_readBeats_16 : decode cX4_readBeats 16 = .ok (.aload_n 0, 1) := by decide +kernel
theorem dX4_readBeats_17 : decode cX4_readBeats 17 = .ok (.getfield 13, 3) := by decide +kernel
theorem dX4_readBeats_20 : decode cX4_readBeats 20 = .ok (.if_icmp .lt 5, 3) := by decide +kernel
theorem dX4_readBeats_23 : decode cX4_readBeats 23 = .ok (.iconst 1, 1) := by decide +kernel
theorem dX4_readBeats_24 : decode cX4_readBeats 24 = .ok (.ireturn, 1) := by decide +kernel
theorem dX4_readBeats_25 : decode cX4_readBeats 25 = .ok (.aload_n 0, 1) := by decide +kernel
theorem dX4_readBeats_26 : decode cX4_readBeats 26 = .ok (.aload_n 1, 1) := by decide +kernel
theorem dX4_readBeats_27 : decode cX4_readBeats 27 = .ok (.invokevirtual 74, 3) := by decide +kernel
theorem dX4_readBeats_30 : decode cX4_readBeats 30 = .ok (.ifCond .ne 5, 3) := by decide +kernel
theorem dX4_readBeats_33 : decode cX4_readBeats 33 = .ok (.iconst 0, 1) := by decide +kernel
theorem dX4_readBeats_34 : decode cX4_readBeats 34 = .ok (.ireturn, 1) := by decide +kernel
theorem dX4_readBeats_35 : decode cX4_readBeats 35 = .ok (.iinc 2 1, 3) := by decide +kernel
theorem dX4_readBeats_38 : decode cX4_readBeats 38 = .ok (.goto (-36), 3) := by decide +kernel
theorem dX4_readBeats_41 : decode cX4_readBeats 41 = .ok (.iconst 0, 1) := by decide +kernel
theorem dX4_readBeats_42 : decode cX4_readBeats 42 = .ok (.ireturn, 1) := by decide +kernel
theorem dX4_readBeat_0 : decode cX4_readBeat 0 = .ok (.aload_n 0, 1) := by decide +kernel
theorem dX4_readBeat_1 : decode cX4_readBeat 1 = .ok (.getfield 17, 3) := by decide +kernel
theorem dX4_readBeat_4 : decode cX4_readBeat 4 = .ok (.aload_n 0, 1) := by decide +kernel
theorem dX4_readBeat_5 : decode cX4_readBeat 5 = .ok (.getfield 13, 3) := by decide +kernel
theorem dX4_readBeat_8 : decode cX4_readBeat 8 = .ok (.if_icmp .ge 17, 3) := by decide +kernel
theorem dX4_readBeat_11 : decode cX4_readBeat 11 = .ok (.aload_n 0, 1) := by decide +kernel
theorem dX4_readBeat_12 : decode cX4_readBeat 12 = .ok (.getfield 9, 3) := by decide +kernel
theorem dX4_readBeat_15 : decode cX4_readBeat 15 = .ok (.aload_n 0, 1) := by decide +kernel
theorem dX4_readBeat_16 : decode cX4_readBeat 16 = .ok (.getfield 17, 3) := by decide +kernel
theorem dX4_readBeat_19 : decode cX4_readBeat 19 = .ok (.iaload, 1) := by decide +kernel
theorem dX4_readBeat_20 : decode cX4_readBeat 20 = .ok (.bipush 114, 2) := by decide +kernel
theorem dX4_readBeat_22 : decode cX4_readBeat 22 = .ok (.if_icmp .eq 9, 3) := by decide +kernel
theorem dX4_readBeat_25 : decode cX4_readBeat 25 = .ok (.aload_n 0, 1) := by decide +kernel
theorem dX4_readBeat_26 : decode cX4_readBeat 26 = .ok (.iconst 1, 1) := by decide +kernel
theorem dX4_readBeat_27 : decode cX4_readBeat 27 = .ok (.invokevirtual 59, 3) := by decide +kernel
theorem dX4_readBeat_30 : decode cX4_readBeat 30 = .ok (.ireturn, 1) := by decide +kernel
theorem dX4_readBeat_31 : decode cX4_readBeat 31 = .ok (.aload_n 1, 1) := by decide +kernel
theorem dX4_readBeat_32 : decode cX4_readBeat 32 = .ok (.getfield 77, 3) := by decide +kernel
theorem dX4_readBeat_35 : decode cX4_readBeat 35 = .ok (.istore_n 2, 1) := by decide +kernel
theorem dX4_readBeat_36 : decode cX4_readBeat 36 = .ok (.iload_n 2, 1) := by decide +kernel
theorem dX4_readBeat_37 : decode cX4_readBeat 37 = .ok (.bipush 8, 2) := by decide +kernel
theorem dX4_readBeat_39 : decode cX4_readBeat 39 = .ok (.if_icmp .lt 9, 3) := by decide +kernel
theorem dX4_readBeat_42 : decode cX4_readBeat 42 = .ok (.aload_n 0, 1) := by decide +kernel
theorem dX4_readBeat_43 : decode cX4_readBeat 43 = .ok (.iconst 3, 1) := by decide +kernel
theorem dX4_readBeat_44 : decode cX4_readBeat 44 = .ok (.invokevirtual 59, 3) := by decide +kernel
theorem dX4_readBeat_47 : decode cX4_readBeat 47 = .ok (.ireturn, 1) := by decide +kernel
theorem dX4_readBeat_48 : decode cX4_readBeat 48 = .ok (.aload_n 0, 1) := by decide +kernel
theorem dX4_readBeat_49 : decode cX4_readBeat 49 = .ok (.dup, 1) := by decide +kernel
theorem dX4_readBeat_50 : decode cX4_readBeat 50 = .ok (.getfield 17, 3) := by decide +kernel
theorem dX4_readBeat_53 : decode cX4_readBeat 53 = .ok (.iconst 1, 1) := by decide +kernel
theorem dX4_readBeat_54 : decode cX4_readBeat 54 = .ok (.iadd, 1) := by decide +kernel
theorem dX4_readBeat_55 : decode cX4_readBeat 55 = .ok (.putfield 17, 3) := by decide +kernel
theorem dX4_readBeat_58 : decode cX4_readBeat 58 = .ok (.aload_n 0, 1) := by decide +kernel
theorem dX4_readBeat_59 : decode cX4_readBeat 59 = .ok (.aload_n 1, 1) := by decide +kernel
theorem dX4_readBeat_60 : decode cX4_readBeat 60 = .ok (.getfield 62, 3) := by decide +kernel
theorem dX4_readBeat_63 : decode cX4_readBeat 63 = .ok (.iconst 1, 1) := by decide +kernel
theorem dX4_readBeat_64 : decode cX4_readBeat 64 = .ok (.isub, 1) := by decide +kernel
theorem dX4_readBeat_65 : decode cX4_readBeat 65 = .ok (.invokevirtual 39, 3) := by decide +kernel
theorem dX4_readBeat_68 : decode cX4_readBeat 68 = .ok (.istore_n 3, 1) := by decide +kernel
theorem dX4_readBeat_69 : decode cX4_readBeat 69 = .ok (.iload_n 3, 1) := by decide +kernel
theorem dX4_readBeat_70 : decode cX4_readBeat 70 = .ok (.iconst (-1), 1) := by decide +kernel
theorem dX4_readBeat_71 : decode cX4_readBeat 71 = .ok (.if_icmp .eq 12, 3) := by decide +kernel
theorem dX4_readBeat_74 : decode cX4_readBeat 74 = .ok (.aload_n 0, 1) := by decide +kernel
theorem dX4_readBeat_75 : decode cX4_readBeat 75 = .ok (.bipush 59, 2) := by decide +kernel
theorem dX4_readBeat_77 : decode cX4_readBeat 77 = .ok (.invokevirtual 35, 3) := by decide +kernel
theorem dX4_readBeat_80 : decode cX4_readBeat 80 = .ok (.ifCond .ne 5, 3) := by decide +kernel
theorem dX4_readBeat_83 : decode cX4_readBeat 83 = .ok (.iconst 0, 1) := by decide +kernel
theorem dX4_readBeat_84 : decode cX4_readBeat 84 = .ok (.ireturn, 1) := by decide +kernel
theorem dX4_readBeat_85 : decode cX4_readBeat 85 = .ok (.aload_n 1, 1) := by decide +kernel
theorem dX4_readBeat_86 : decode cX4_readBeat 86 = .ok (.getfield 80, 3) := by decide +kernel
theorem dX4_readBeat_89 : decode cX4_readBeat 89 = .ok (.iload_n 2, 1) := by decide +kernel
theorem dX4_readBeat_90 : decode cX4_readBeat 90 = .ok (.iload_n 3, 1) := by decide +kernel
theorem dX4_readBeat_91 : decode cX4_readBeat 91 = .ok (.iastore, 1) := by decide +kernel
theorem dX4_readBeat_92 : decode cX4_readBeat 92 = .ok (.aload_n 1, 1) := by decide +kernel
theorem dX4_readBeat_93 : decode cX4_readBeat 93 = .ok (.dup, 1) := by decide +kernel
theorem dX4_readBeat_94 : decode cX4_readBeat 94 = .ok (.getfield 77, 3) := by decide +kernel
theorem dX4_readBeat_97 : decode cX4_readBeat 97 = .ok (.iconst 1, 1) := by decide +kernel
theorem dX4_readBeat_98 : decode cX4_readBeat 98 = .ok (.iadd, 1) := by decide +kernel
theorem dX4_readBeat_99 : decode cX4_readBeat 99 = .ok (.putfield 77, 3) := by decide +kernel
theorem dX4_readBeat_102 : decode cX4_readBeat 102 = .ok (.iconst 1, 1) := by decide +kernel
theorem dX4_readBeat_103 : decode cX4_readBeat 103 = .ok (.ireturn, 1) := by decide +kernel
theorem dX4_readSign_0 : decode cX4_readSign 0 = .ok (.aload_n 0, 1) := by decide +kernel
theorem dX4_readSign_1 : decode cX4_readSign 1 = .ok (.getfield 17, 3) := by decide +kernel
theorem dX4_readSign_4 : decode cX4_readSign 4 = .ok (.aload_n 0, 1) := by decide +kernel
theorem dX4_readSign_5 : decode cX4_readSign 5 = .ok (.getfield 13, 3) := by decide +kernel
theorem dX4_readSign_8 : decode cX4_readSign 8 = .ok (.if_icmp .ge 16, 3) := by decide +kernel
theorem dX4_readSign_11 : decode cX4_readSign 11 = .ok (.aload_n 0, 1) := by decide +kernel
theorem dX4_readSign_12 : decode cX4_readSign 12 = .ok (.getfield 9, 3) := by decide +kernel
theorem dX4_readSign_15 : decode cX4_readSign 15 = .ok (.aload_n 0, 1) := by decide +kernel
theorem dX4_readSign_16 : decode cX4_readSign 16 = .ok (.getfield 17, 3) := by decide +kernel
theorem dX4_readSign_19 : decode cX4_readSign 19 = .ok (.iaload, 1) := by decide +kernel
theorem dX4_readSign_20 : decode cX4_readSign 20 = .ok (.iload_n 1, 1) := by decide +kernel
theorem dX4_readSign_21 : decode cX4_readSign 21 = .ok (.if_icmp .eq 9, 3) := by decide +kernel
theorem dX4_readSign_24 : decode cX4_readSign 24 = .ok (.aload_n 0, 1) := by decide +kernel
theorem dX4_readSign_25 : decode cX4_readSign 25 = .ok (.iconst 1, 1) := by decide +kernel
theorem dX4_readSign_26 : decode cX4_readSign 26 = .ok (.invokevirtual 59, 3) := by decide +kernel
theorem dX4_readSign_29 : decode cX4_readSign 29 = .ok (.ireturn, 1) := by decide +kernel
theorem dX4_readSign_30 : decode cX4_readSign 30 = .ok (.aload_n 0, 1) := by decide +kernel
theorem dX4_readSign_31 : decode cX4_readSign 31 = .ok (.dup, 1) := by decide +kernel
theorem dX4_readSign_32 : decode cX4_readSign 32 = .ok (.getfield 17, 3) := by decide +kernel
theorem dX4_readSign_35 : decode cX4_readSign 35 = .ok (.iconst 1, 1) := by decide +kernel
theorem dX4_readSign_36 : decode cX4_readSign 36 = .ok (.iadd, 1) := by decide +kernel
theorem dX4_readSign_37 : decode cX4_readSign 37 = .ok (.putfield 17, 3) := by decide +kernel
theorem dX4_readSign_40 : decode cX4_readSign 40 = .ok (.iconst 1, 1) := by decide +kernel
theorem dX4_readSign_41 : decode cX4_readSign 41 = .ok (.ireturn, 1) := by decide +kernel
theorem dX4_readNumber_0 : decode cX4_readNumber 0 = .ok (.iconst 0, 1) := by decide +kernel
theorem dX4_readNumber_1 : decode cX4_readNumber 1 = .ok (.istore_n 2, 1) := by decide +kernel
theorem dX4_readNumber_2 : decode cX4_readNumber 2 = .ok (.iconst 0, 1) := by decide +kernel
theorem dX4_readNumber_3 : decode cX4_readNumber 3 = .ok (.istore_n 3, 1) := by decide +kernel
theorem dX4_readNumber_4 : decode cX4_readNumber 4 = .ok (.iload_n 2, 1) := by decide +kernel
theorem dX4_readNumber_5 : decode cX4_readNumber 5 = .ok (.iconst 3, 1) := by decide +kernel
theorem dX4_readNumber_6 : decode cX4_readNumber 6 = .ok (.if_icmp .ge 42, 3) := by decide +kernel
theorem dX4_readNumber_9 : decode cX4_readNumber 9 = .ok (.aload_n 0, 1) := by decide +kernel
theorem dX4_readNumber_10 : decode cX4_readNumber 10 = .ok (.aload_n 0, 1) := by decide +kernel
theorem dX4_readNumber_11 : decode cX4_readNumber 11 = .ok (.getfield 17, 3) := by decide +kernel
theorem dX4_readNumber_14 : decode cX4_readNumber 14 = .ok (.iload_n 2, 1) := by decide +kernel
theorem dX4_readNumber_15 : decode cX4_readNumber 15 = .ok (.iadd, 1) := by decide +kernel
theorem dX4_readNumber_16 : decode cX4_readNumber 16 = .ok (.invokevirtual 83, 3) := by decide +kernel
theorem dX4_readNumber_19 : decode cX4_readNumber 19 = .ok (.ifCond .eq 29, 3) := by decide +kernel
theorem dX4_readNumber_22 : decode cX4_readNumber 22 = .ok (.bipush 10, 2) := by decide +kernel
theorem dX4_readNumber_24 : decode cX4_readNumber 24 = .ok (.iload_n 3, 1) := by decide +kernel
theorem dX4_readNumber_25 : decode cX4_readNumber 25 = .ok (.imul, 1) := by decide +kernel
theorem dX4_readNumber_26 : decode cX4_readNumber 26 = .ok (.aload_n 0, 1) := by decide +kernel
theorem dX4_readNumber_27 : decode cX4_readNumber 27 = .ok (.getfield 9, 3) := by decide +kernel
theorem dX4_readNumber_30 : decode cX4_readNumber 30 = .ok (.aload_n 0, 1) := by decide +kernel
theorem dX4_readNumber_31 : decode cX4_readNumber 31 = .ok (.getfield 17, 3) := by decide +kernel
theorem dX4_readNumber_34 : decode cX4_readNumber 34 = .ok (.iload_n 2, 1) := by decide +kernel
theorem dX4_readNumber_35 : decode cX4_readNumber 35 = .ok (.iadd, 1) := by decide +kernel
theorem dX4_readNumber_36 : decode cX4_readNumber 36 = .ok (.iaload, 1) := by decide +kernel
theorem dX4_readNumber_37 : decode cX4_readNumber 37 = .ok (.iadd, 1) := by decide +kernel
theorem dX4_readNumber_38 : decode cX4_readNumber 38 = .ok (.bipush 48, 2) := by decide +kernel
theorem dX4_readNumber_40 : decode cX4_readNumber 40 = .ok (.isub, 1) := by decide +kernel
theorem dX4_readNumber_41 : decode cX4_readNumber 41 = .ok (.istore_n 3, 1) := by decide +kernel
theorem dX4_readNumber_42 : decode cX4_readNumber 42 = .ok (.iinc 2 1, 3) := by decide +kernel
theorem dX4_readNumber_45 : decode cX4_readNumber 45 = .ok (.goto (-41), 3) := by decide +kernel
theorem dX4_readNumber_48 : decode cX4_readNumber 48 = .ok (.iload_n 2, 1) := by decide +kernel
theorem dX4_readNumber_49 : decode cX4_readNumber 49 = .ok (.iconst 1, 1) := by decide +kernel
theorem dX4_readNumber_50 : decode cX4_readNumber 50 = .ok (.if_icmp .lt 8, 3) := by decide +kernel
theorem dX4_readNumber_53 : decode cX4_readNumber 53 = .ok (.iload_n 2, 1) := by decide +kernel
theorem dX4_readNumber_54 : decode cX4_readNumber 54 = .ok (.iconst 2, 1) := by decide +kernel
theorem dX4_readNumber_55 : decode cX4_readNumber 55 = .ok (.if_icmp .le 11, 3) := by decide +kernel
theorem dX4_readNumber_58 : decode cX4_readNumber 58 = .ok (.aload_n 0, 1) := by decide +kernel
theorem dX4_readNumber_59 : decode cX4_readNumber 59 = .ok (.iconst 1, 1) := by decide +kernel
theorem dX4_readNumber_60 : decode cX4_readNumber 60 = .ok (.invokevirtual 59, 3) := by decide +kernel
theorem dX4_readNumber_63 : decode cX4_readNumber 63 = .ok (.pop, 1) := by decide +kernel
theorem dX4_readNumber_64 : decode cX4_readNumber 64 = .ok (.iconst (-1), 1) := by decide +kernel
theorem dX4_readNumber_65 : decode cX4_readNumber 65 = .ok (.ireturn, 1) := by decide +kernel
theorem dX4_readNumber_66 : decode cX4_readNumber 66 = .ok (.iload_n 3, 1) := by decide +kernel
theorem dX4_readNumber_67 : decode cX4_readNumber 67 = .ok (.iload_n 1, 1) := by decide +kernel
theorem dX4_readNumber_68 : decode cX4_readNumber 68 = .ok (.if_icmp .le 11, 3) := by decide +kernel
theorem dX4_readNumber_71 : decode cX4_readNumber 71 = .ok (.aload_n 0, 1) := by decide +kernel
theorem dX4_readNumber_72 : decode cX4_readNumber 72 = .ok (.iconst 2, 1) := by decide +kernel
theorem dX4_readNumber_73 : decode cX4_readNumber 73 = .ok (.invokevirtual 59, 3) := by decide +kernel
theorem dX4_readNumber_76 : decode cX4_readNumber 76 = .ok (.pop, 1) := by decide +kernel
theorem dX4_readNumber_77 : decode cX4_readNumber 77 = .ok (.iconst (-1), 1) := by decide +kernel
theorem dX4_readNumber_78 : decode cX4_readNumber 78 = .ok (.ireturn, 1) := by decide +kernel
theorem dX4_readNumber_79 : decode cX4_readNumber 79 = .ok (.aload_n 0, 1) := by decide +kernel
theorem dX4_readNumber_80 : decode cX4_readNumber 80 = .ok (.dup, 1) := by decide +kernel
theorem dX4_readNumber_81 : decode cX4_readNumber 81 = .ok (.getfield 17, 3) := by decide +kernel
theorem dX4_readNumber_84 : decode cX4_readNumber 84 = .ok (.iload_n 2, 1) := by decide +kernel
theorem dX4_readNumber_85 : decode cX4_readNumber 85 = .ok (.iadd, 1) := by decide +kernel
theorem dX4_readNumber_86 : decode cX4_readNumber 86 = .ok (.putfield 17, 3) := by decide +kernel
theorem dX4_readNumber_89 : decode cX4_readNumber 89 = .ok (.iload_n 3, 1) := by decide +kernel
theorem dX4_readNumber_90 : decode cX4_readNumber 90 = .ok (.ireturn, 1) := by decide +kernel
theorem dX4_isFigure_0 : decode cX4_isFigure 0 = .ok (.iload_n 1, 1) := by decide +kernel
theorem dX4_isFigure_1 : decode cX4_isFigure 1 = .ok (.aload_n 0, 1) := by decide +kernel
theorem dX4_isFigure_2 : decode cX4_isFigure 2 = .ok (.getfield 13, 3) := by decide +kernel
theorem dX4_isFigure_5 : decode cX4_isFigure 5 = .ok (.if_icmp .ge 29, 3) := by decide +kernel
theorem dX4_isFigure_8 : decode cX4_isFigure 8 = .ok (.aload_n 0, 1) := by decide +kernel
theorem dX4_isFigure_9 : decode cX4_isFigure 9 = .ok (.getfield 9, 3) := by decide +kernel
theorem dX4_isFigure_12 : decode cX4_isFigure 12 = .ok (.iload_n 1, 1) := by decide +kernel
theorem dX4_isFigure_13 : decode cX4_isFigure 13 = .ok (.iaload, 1) := by decide +kernel
theorem dX4_isFigure_14 : decode cX4_isFigure 14 = .ok (.bipush 48, 2) := by decide +kernel
theorem dX4_isFigure_16 : decode cX4_isFigure 16 = .ok (.if_icmp .lt 18, 3) := by decide +kernel
theorem dX4_isFigure_19 : decode cX4_isFigure 19 = .ok (.aload_n 0, 1) := by decide +kernel
theorem dX4_isFigure_20 : decode cX4_isFigure 20 = .ok (.getfield 9, 3) := by decide +kernel
theorem dX4_isFigure_23 : decode cX4_isFigure 23 = .ok (.iload_n 1, 1) := by decide +kernel
theorem dX4_isFigure_24 : decode cX4_isFigure 24 = .ok (.iaload, 1) := by decide +kernel
theorem dX4_isFigure_25 : decode cX4_isFigure 25 = .ok (.bipush 57, 2) := by decide +kernel
theorem dX4_isFigure_27 : decode cX4_isFigure 27 = .ok (.if_icmp .gt 7, 3) := by decide +kernel
theorem dX4_isFigure_30 : decode cX4_isFigure 30 = .ok (.iconst 1, 1) := by decide +kernel
theorem dX4_isFigure_31 : decode cX4_isFigure 31 = .ok (.goto 4, 3) := by decide +kernel
theorem dX4_isFigure_34 : decode cX4_isFigure 34 = .ok (.iconst 0, 1) := by decide +kernel
theorem dX4_isFigure_35 : decode cX4_isFigure 35 = .ok (.ireturn, 1) := by decide +kernel
theorem dX4_fails_0 : decode cX4_fails 0 = .ok (.aload_n 0, 1) := by decide +kernel
theorem dX4_fails_1 : decode cX4_fails 1 = .ok (.iload_n 1, 1) := by decide +kernel
theorem dX4_fails_2 : decode cX4_fails 2 = .ok (.putfield 86, 3) := by decide +kernel
theorem dX4_fails_5 : decode cX4_fails 5 = .ok (.aload_n 0, 1) := by decide +kernel
theorem dX4_fails_6 : decode cX4_fails 6 = .ok (.aload_n 0, 1) := by decide +kernel
theorem dX4_fails_7 : decode cX4_fails 7 = .ok (.getfield 17, 3) := by decide +kernel
theorem dX4_fails_10 : decode cX4_fails 10 = .ok (.putfield 89, 3) := by decide +kernel
theorem dX4_fails_13 : decode cX4_fails 13 = .ok (.iconst 0, 1) := by decide +kernel
theorem dX4_fails_14 : decode cX4_fails 14 = .ok (.ireturn, 1) := by decide +kernel
theorem dX5_init_0 : decode cX5_init 0 = .ok (.aload_n 0, 1) := by decide +kernel
theorem dX5_init_1 : decode cX5_init 1 = .ok (.invokespecial 1, 3) := by decide +kernel
theorem dX5_init_4 : decode cX5_init 4 = .ok (.aload_n 0, 1) := by decide +kernel
theorem dX5_init_5 : decode cX5_init 5 = .ok (.bipush 8, 2) := by decide +kernel
theorem dX5_init_7 : decode cX5_init 7 = .ok (.newarray .int, 2) := by decide +kernel
theorem dX5_init_9 : decode cX5_init 9 = .ok (.putfield 9, 3) := by decide +kernel
theorem dX5_init_12 : decode cX5_init 12 = .ok (.aload_n 0, 1) := by decide +kernel
theorem dX5_init_13 : decode cX5_init 13 = .ok (.bipush 8, 2) := by decide +kernel
theorem dX5_init_15 : decode cX5_init 15 = .ok (.newarray .int, 2) := by decide +kernel
theorem dX5_init_17 : decode cX5_init 17 = .ok (.putfield 13, 3) := by decide +kernel
theorem dX5_init_20 : decode cX5_init 20 = .ok (.aload_n 0, 1) := by decide +kernel
theorem dX5_init_21 : decode cX5_init 21 = .ok (.bipush 8, 2) := by decide +kernel
theorem dX5_init_23 : decode cX5_init 23 = .ok (.newarray .int, 2) := by decide +kernel
theorem dX5_init_25 : decode cX5_init 25 = .ok (.putfield 16, 3) := by decide +kernel
theorem dX5_init_28 : decode cX5_init 28 = .ok (.aload_n 0, 1) := by decide +kernel
