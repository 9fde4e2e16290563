theorem dX7_takesStreet_113 : decode cX7_takesStreet 113 = .ok (.iconst 0, 1) := by decide +kernel
theorem dX7_takesStreet_114 : decode cX7_takesStreet 114 = .ok (.ireturn, 1) := by decide +kernel
theorem dX7_takesStreet_115 : decode cX7_takesStreet 115 = .ok (.aload_n 0, 1) := by decide +kernel
theorem dX7_takesStreet_116 : decode cX7_takesStreet 116 = .ok (.getfield 7, 3) := by decide +kernel
theorem dX7_takesStreet_119 : decode cX7_takesStreet 119 = .ok (.sipush 174, 3) := by decide +kernel
theorem dX7_takesStreet_122 : decode cX7_takesStreet 122 = .ok (.iload_n 1, 1) := by decide +kernel
theorem dX7_takesStreet_123 : decode cX7_takesStreet 123 = .ok (.iadd, 1) := by decide +kernel
theorem dX7_takesStreet_124 : decode cX7_takesStreet 124 = .ok (.aload_n 0, 1) := by decide +kernel
theorem dX7_takesStreet_125 : decode cX7_takesStreet 125 = .ok (.getfield 87, 3) := by decide +kernel
theorem dX7_takesStreet_128 : decode cX7_takesStreet 128 = .ok (.iastore, 1) := by decide +kernel
theorem dX7_takesStreet_129 : decode cX7_takesStreet 129 = .ok (.aload_n 0, 1) := by decide +kernel
theorem dX7_takesStreet_130 : decode cX7_takesStreet 130 = .ok (.getfield 7, 3) := by decide +kernel
theorem dX7_takesStreet_133 : decode cX7_takesStreet 133 = .ok (.sipush 152, 3) := by decide +kernel
theorem dX7_takesStreet_136 : decode cX7_takesStreet 136 = .ok (.dup2, 1) := by decide +kernel
theorem dX7_takesStreet_137 : decode cX7_takesStreet 137 = .ok (.iaload, 1) := by decide +kernel
theorem dX7_takesStreet_138 : decode cX7_takesStreet 138 = .ok (.iconst 1, 1) := by decide +kernel
theorem dX7_takesStreet_139 : decode cX7_takesStreet 139 = .ok (.iadd, 1) := by decide +kernel
theorem dX7_takesStreet_140 : decode cX7_takesStreet 140 = .ok (.iastore, 1) := by decide +kernel
theorem dX7_takesStreet_141 : decode cX7_takesStreet 141 = .ok (.aload_n 0, 1) := by decide +kernel
theorem dX7_takesStreet_142 : decode cX7_takesStreet 142 = .ok (.bipush 59, 2) := by decide +kernel
theorem dX7_takesStreet_144 : decode cX7_takesStreet 144 = .ok (.invokevirtual 94, 3) := by decide +kernel
theorem dX7_takesStreet_147 : decode cX7_takesStreet 147 = .ok (.ireturn, 1) := by decide +kernel
theorem dX7_takesBeat_0 : decode cX7_takesBeat 0 = .ok (.aload_n 0, 1) := by decide +kernel
theorem dX7_takesBeat_1 : decode cX7_takesBeat 1 = .ok (.invokevirtual 79, 3) := by decide +kernel
theorem dX7_takesBeat_4 : decode cX7_takesBeat 4 = .ok (.bipush 114, 2) := by decide +kernel
theorem dX7_takesBeat_6 : decode cX7_takesBeat 6 = .ok (.if_icmp .eq 13, 3) := by decide +kernel
theorem dX7_takesBeat_9 : decode cX7_takesBeat 9 = .ok (.aload_n 0, 1) := by decide +kernel
theorem dX7_takesBeat_10 : decode cX7_takesBeat 10 = .ok (.iconst 1, 1) := by decide +kernel
theorem dX7_takesBeat_11 : decode cX7_takesBeat 11 = .ok (.aload_n 0, 1) := by decide +kernel
theorem dX7_takesBeat_12 : decode cX7_takesBeat 12 = .ok (.getfield 70, 3) := by decide +kernel
theorem dX7_takesBeat_15 : decode cX7_takesBeat 15 = .ok (.invokevirtual 83, 3) := by decide +kernel
theorem dX7_takesBeat_18 : decode cX7_takesBeat 18 = .ok (.ireturn, 1) := by decide +kernel
theorem dX7_takesBeat_19 : decode cX7_takesBeat 19 = .ok (.aload_n 0, 1) := by decide +kernel
theorem dX7_takesBeat_20 : decode cX7_takesBeat 20 = .ok (.getfield 7, 3) := by decide +kernel
theorem dX7_takesBeat_23 : decode cX7_takesBeat 23 = .ok (.sipush 153, 3) := by decide +kernel
theorem dX7_takesBeat_26 : decode cX7_takesBeat 26 = .ok (.iaload, 1) := by decide +kernel
theorem dX7_takesBeat_27 : decode cX7_takesBeat 27 = .ok (.bipush 8, 2) := by decide +kernel
theorem dX7_takesBeat_29 : decode cX7_takesBeat 29 = .ok (.if_icmp .ne 13, 3) := by decide +kernel
theorem dX7_takesBeat_32 : decode cX7_takesBeat 32 = .ok (.aload_n 0, 1) := by decide +kernel
theorem dX7_takesBeat_33 : decode cX7_takesBeat 33 = .ok (.iconst 3, 1) := by decide +kernel
theorem dX7_takesBeat_34 : decode cX7_takesBeat 34 = .ok (.aload_n 0, 1) := by decide +kernel
theorem dX7_takesBeat_35 : decode cX7_takesBeat 35 = .ok (.getfield 70, 3) := by decide +kernel
theorem dX7_takesBeat_38 : decode cX7_takesBeat 38 = .ok (.invokevirtual 83, 3) := by decide +kernel
theorem dX7_takesBeat_41 : decode cX7_takesBeat 41 = .ok (.ireturn, 1) := by decide +kernel
theorem dX7_takesBeat_42 : decode cX7_takesBeat 42 = .ok (.aload_n 0, 1) := by decide +kernel
theorem dX7_takesBeat_43 : decode cX7_takesBeat 43 = .ok (.dup, 1) := by decide +kernel
theorem dX7_takesBeat_44 : decode cX7_takesBeat 44 = .ok (.getfield 70, 3) := by decide +kernel
theorem dX7_takesBeat_47 : decode cX7_takesBeat 47 = .ok (.iconst 1, 1) := by decide +kernel
theorem dX7_takesBeat_48 : decode cX7_takesBeat 48 = .ok (.iadd, 1) := by decide +kernel
theorem dX7_takesBeat_49 : decode cX7_takesBeat 49 = .ok (.putfield 70, 3) := by decide +kernel
theorem dX7_takesBeat_52 : decode cX7_takesBeat 52 = .ok (.aload_n 0, 1) := by decide +kernel
theorem dX7_takesBeat_53 : decode cX7_takesBeat 53 = .ok (.iconst 0, 1) := by decide +kernel
theorem dX7_takesBeat_54 : decode cX7_takesBeat 54 = .ok (.aload_n 0, 1) := by decide +kernel
theorem dX7_takesBeat_55 : decode cX7_takesBeat 55 = .ok (.getfield 7, 3) := by decide +kernel
theorem dX7_takesBeat_58 : decode cX7_takesBeat 58 = .ok (.sipush 152, 3) := by decide +kernel
theorem dX7_takesBeat_61 : decode cX7_takesBeat 61 = .ok (.iaload, 1) := by decide +kernel
theorem dX7_takesBeat_62 : decode cX7_takesBeat 62 = .ok (.iconst 1, 1) := by decide +kernel
theorem dX7_takesBeat_63 : decode cX7_takesBeat 63 = .ok (.isub, 1) := by decide +kernel
theorem dX7_takesBeat_64 : decode cX7_takesBeat 64 = .ok (.invokevirtual 97, 3) := by decide +kernel
theorem dX7_takesBeat_67 : decode cX7_takesBeat 67 = .ok (.ifCond .ne 5, 3) := by decide +kernel
theorem dX7_takesBeat_70 : decode cX7_takesBeat 70 = .ok (.iconst 0, 1) := by decide +kernel
theorem dX7_takesBeat_71 : decode cX7_takesBeat 71 = .ok (.ireturn, 1) := by decide +kernel
theorem dX7_takesBeat_72 : decode cX7_takesBeat 72 = .ok (.aload_n 0, 1) := by decide +kernel
theorem dX7_takesBeat_73 : decode cX7_takesBeat 73 = .ok (.getfield 7, 3) := by decide +kernel
theorem dX7_takesBeat_76 : decode cX7_takesBeat 76 = .ok (.sipush 182, 3) := by decide +kernel
theorem dX7_takesBeat_79 : decode cX7_takesBeat 79 = .ok (.aload_n 0, 1) := by decide +kernel
theorem dX7_takesBeat_80 : decode cX7_takesBeat 80 = .ok (.getfield 7, 3) := by decide +kernel
theorem dX7_takesBeat_83 : decode cX7_takesBeat 83 = .ok (.sipush 153, 3) := by decide +kernel
theorem dX7_takesBeat_86 : decode cX7_takesBeat 86 = .ok (.iaload, 1) := by decide +kernel
theorem dX7_takesBeat_87 : decode cX7_takesBeat 87 = .ok (.iadd, 1) := by decide +kernel
theorem dX7_takesBeat_88 : decode cX7_takesBeat 88 = .ok (.aload_n 0, 1) := by decide +kernel
theorem dX7_takesBeat_89 : decode cX7_takesBeat 89 = .ok (.getfield 87, 3) := by decide +kernel
theorem dX7_takesBeat_92 : decode cX7_takesBeat 92 = .ok (.iastore, 1) := by decide +kernel
theorem dX7_takesBeat_93 : decode cX7_takesBeat 93 = .ok (.aload_n 0, 1) := by decide +kernel
theorem dX7_takesBeat_94 : decode cX7_takesBeat 94 = .ok (.getfield 7, 3) := by decide +kernel
theorem dX7_takesBeat_97 : decode cX7_takesBeat 97 = .ok (.sipush 153, 3) := by decide +kernel
theorem dX7_takesBeat_100 : decode cX7_takesBeat 100 = .ok (.dup2, 1) := by decide +kernel
theorem dX7_takesBeat_101 : decode cX7_takesBeat 101 = .ok (.iaload, 1) := by decide +kernel
theorem dX7_takesBeat_102 : decode cX7_takesBeat 102 = .ok (.iconst 1, 1) := by decide +kernel
theorem dX7_takesBeat_103 : decode cX7_takesBeat 103 = .ok (.iadd, 1) := by decide +kernel
theorem dX7_takesBeat_104 : decode cX7_takesBeat 104 = .ok (.iastore, 1) := by decide +kernel
theorem dX7_takesBeat_105 : decode cX7_takesBeat 105 = .ok (.aload_n 0, 1) := by decide +kernel
theorem dX7_takesBeat_106 : decode cX7_takesBeat 106 = .ok (.bipush 59, 2) := by decide +kernel
theorem dX7_takesBeat_108 : decode cX7_takesBeat 108 = .ok (.invokevirtual 94, 3) := by decide +kernel
theorem dX7_takesBeat_111 : decode cX7_takesBeat 111 = .ok (.ireturn, 1) := by decide +kernel
theorem dX7_takesAll_0 : decode cX7_takesAll 0 = .ok (.aload_n 0, 1) := by decide +kernel
theorem dX7_takesAll_1 : decode cX7_takesAll 1 = .ok (.invokevirtual 103, 3) := by decide +kernel
theorem dX7_takesAll_4 : decode cX7_takesAll 4 = .ok (.ifCond .ne 5, 3) := by decide +kernel
theorem dX7_takesAll_7 : decode cX7_takesAll 7 = .ok (.iconst 0, 1) := by decide +kernel
theorem dX7_takesAll_8 : decode cX7_takesAll 8 = .ok (.ireturn, 1) := by decide +kernel
theorem dX7_takesAll_9 : decode cX7_takesAll 9 = .ok (.aload_n 0, 1) := by decide +kernel
theorem dX7_takesAll_10 : decode cX7_takesAll 10 = .ok (.getfield 7, 3) := by decide +kernel
theorem dX7_takesAll_13 : decode cX7_takesAll 13 = .ok (.sipush 152, 3) := by decide +kernel
theorem dX7_takesAll_16 : decode cX7_takesAll 16 = .ok (.iaload, 1) := by decide +kernel
theorem dX7_takesAll_17 : decode cX7_takesAll 17 = .ok (.ifCond .eq 12, 3) := by decide +kernel
theorem dX7_takesAll_20 : decode cX7_takesAll 20 = .ok (.aload_n 0, 1) := by decide +kernel
theorem dX7_takesAll_21 : decode cX7_takesAll 21 = .ok (.invokevirtual 79, 3) := by decide +kernel
theorem dX7_takesAll_24 : decode cX7_takesAll 24 = .ok (.bipush 114, 2) := by decide +kernel
theorem dX7_takesAll_26 : decode cX7_takesAll 26 = .ok (.if_icmp .eq 12, 3) := by decide +kernel
theorem dX7_takesAll_29 : decode cX7_takesAll 29 = .ok (.aload_n 0, 1) := by decide +kernel
theorem dX7_takesAll_30 : decode cX7_takesAll 30 = .ok (.invokevirtual 107, 3) := by decide +kernel
theorem dX7_takesAll_33 : decode cX7_takesAll 33 = .ok (.ifCond .ne (-24), 3) := by decide +kernel
theorem dX7_takesAll_36 : decode cX7_takesAll 36 = .ok (.iconst 0, 1) := by decide +kernel
theorem dX7_takesAll_37 : decode cX7_takesAll 37 = .ok (.ireturn, 1) := by decide +kernel
theorem dX7_takesAll_38 : decode cX7_takesAll 38 = .ok (.aload_n 0, 1) := by decide +kernel
theorem dX7_takesAll_39 : decode cX7_takesAll 39 = .ok (.getfield 7, 3) := by decide +kernel
theorem dX7_takesAll_42 : decode cX7_takesAll 42 = .ok (.sipush 153, 3) := by decide +kernel
theorem dX7_takesAll_45 : decode cX7_takesAll 45 = .ok (.iaload, 1) := by decide +kernel
theorem dX7_takesAll_46 : decode cX7_takesAll 46 = .ok (.ifCond .eq 14, 3) := by decide +kernel
theorem dX7_takesAll_49 : decode cX7_takesAll 49 = .ok (.aload_n 0, 1) := by decide +kernel
theorem dX7_takesAll_50 : decode cX7_takesAll 50 = .ok (.getfield 70, 3) := by decide +kernel
theorem dX7_takesAll_53 : decode cX7_takesAll 53 = .ok (.aload_n 0, 1) := by decide +kernel
theorem dX7_takesAll_54 : decode cX7_takesAll 54 = .ok (.getfield 66, 3) := by decide +kernel
theorem dX7_takesAll_57 : decode cX7_takesAll 57 = .ok (.if_icmp .ge 12, 3) := by decide +kernel
theorem dX7_takesAll_60 : decode cX7_takesAll 60 = .ok (.aload_n 0, 1) := by decide +kernel
theorem dX7_takesAll_61 : decode cX7_takesAll 61 = .ok (.invokevirtual 110, 3) := by decide +kernel
theorem dX7_takesAll_64 : decode cX7_takesAll 64 = .ok (.ifCond .ne (-26), 3) := by decide +kernel
theorem dX7_takesAll_67 : decode cX7_takesAll 67 = .ok (.iconst 0, 1) := by decide +kernel
theorem dX7_takesAll_68 : decode cX7_takesAll 68 = .ok (.ireturn, 1) := by decide +kernel
theorem dX7_takesAll_69 : decode cX7_takesAll 69 = .ok (.iconst 1, 1) := by decide +kernel
theorem dX7_takesAll_70 : decode cX7_takesAll 70 = .ok (.ireturn, 1) := by decide +kernel
theorem dX7_town_0 : decode cX7_town 0 = .ok (.iconst 0, 1) := by decide +kernel
theorem dX7_town_1 : decode cX7_town 1 = .ok (.istore_n 1, 1) := by decide +kernel
theorem dX7_town_2 : decode cX7_town 2 = .ok (.iload_n 1, 1) := by decide +kernel
theorem dX7_town_3 : decode cX7_town 3 = .ok (.bipush 38, 2) := by decide +kernel
theorem dX7_town_5 : decode cX7_town 5 = .ok (.if_icmp .ge 20, 3) := by decide +kernel
theorem dX7_town_8 : decode cX7_town 8 = .ok (.aload_n 0, 1) := by decide +kernel
theorem dX7_town_9 : decode cX7_town 9 = .ok (.getfield 7, 3) := by decide +kernel
theorem dX7_town_12 : decode cX7_town 12 = .ok (.sipush 152, 3) := by decide +kernel
theorem dX7_town_15 : decode cX7_town 15 = .ok (.iload_n 1, 1) := by decide +kernel
theorem dX7_town_16 : decode cX7_town 16 = .ok (.iadd, 1) := by decide +kernel
theorem dX7_town_17 : decode cX7_town 17 = .ok (.iconst 0, 1) := by decide +kernel
theorem dX7_town_18 : decode cX7_town 18 = .ok (.iastore, 1) := by decide +kernel
theorem dX7_town_19 : decode cX7_town 19 = .ok (.iinc 1 1, 3) := by decide +kernel
theorem dX7_town_22 : decode cX7_town 22 = .ok (.goto (-20), 3) := by decide +kernel
theorem dX7_town_25 : decode cX7_town 25 = .ok (.aload_n 0, 1) := by decide +kernel
theorem dX7_town_26 : decode cX7_town 26 = .ok (.iconst 0, 1) := by decide +kernel
theorem dX7_town_27 : decode cX7_town 27 = .ok (.putfield 70, 3) := by decide +kernel
theorem dX7_town_30 : decode cX7_town 30 = .ok (.aload_n 0, 1) := by decide +kernel
theorem dX7_town_31 : decode cX7_town 31 = .ok (.invokevirtual 113, 3) := by decide +kernel
theorem dX7_town_34 : decode cX7_town 34 = .ok (.istore_n 1, 1) := by decide +kernel
theorem dX7_town_35 : decode cX7_town 35 = .ok (.aload_n 0, 1) := by decide +kernel
theorem dX7_town_36 : decode cX7_town 36 = .ok (.iconst 0, 1) := by decide +kernel
theorem dX7_town_37 : decode cX7_town 37 = .ok (.putfield 66, 3) := by decide +kernel
theorem dX7_town_40 : decode cX7_town 40 = .ok (.iload_n 1, 1) := by decide +kernel
theorem dX7_town_41 : decode cX7_town 41 = .ok (.ifCond .ne 11, 3) := by decide +kernel
theorem dX7_town_44 : decode cX7_town 44 = .ok (.ldc 116, 2) := by decide +kernel
theorem dX7_town_46 : decode cX7_town 46 = .ok (.aload_n 0, 1) := by decide +kernel
theorem dX7_town_47 : decode cX7_town 47 = .ok (.getfield 76, 3) := by decide +kernel
theorem dX7_town_50 : decode cX7_town 50 = .ok (.isub, 1) := by decide +kernel
theorem dX7_town_51 : decode cX7_town 51 = .ok (.ireturn, 1) := by decide +kernel
theorem dX7_town_52 : decode cX7_town 52 = .ok (.aload_n 0, 1) := by decide +kernel
theorem dX7_town_53 : decode cX7_town 53 = .ok (.sipush 152, 3) := by decide +kernel
theorem dX7_town_56 : decode cX7_town 56 = .ok (.iconst 0, 1) := by decide +kernel
theorem dX7_town_57 : decode cX7_town 57 = .ok (.invokevirtual 117, 3) := by decide +kernel
theorem dX7_town_60 : decode cX7_town 60 = .ok (.aload_n 0, 1) := by decide +kernel
theorem dX7_town_61 : decode cX7_town 61 = .ok (.iconst 0, 1) := by decide +kernel
theorem dX7_town_62 : decode cX7_town 62 = .ok (.putfield 121, 3) := by decide +kernel
theorem dX7_town_65 : decode cX7_town 65 = .ok (.aload_n 0, 1) := by decide +kernel
theorem dX7_town_66 : decode cX7_town 66 = .ok (.getfield 7, 3) := by decide +kernel
theorem dX7_town_69 : decode cX7_town 69 = .ok (.iconst 0, 1) := by decide +kernel
theorem dX7_town_70 : decode cX7_town 70 = .ok (.iaload, 1) := by decide +kernel
theorem dX7_town_71 : decode cX7_town 71 = .ok (.ireturn, 1) := by decide +kernel
theorem dX7_fault_0 : decode cX7_fault 0 = .ok (.aload_n 0, 1) := by decide +kernel
theorem dX7_fault_1 : decode cX7_fault 1 = .ok (.getfield 73, 3) := by decide +kernel
theorem dX7_fault_4 : decode cX7_fault 4 = .ok (.ireturn, 1) := by decide +kernel
theorem dX7_gap_0 : decode cX7_gap 0 = .ok (.iload_n 0, 1) := by decide +kernel
theorem dX7_gap_1 : decode cX7_gap 1 = .ok (.iload_n 1, 1) := by decide +kernel
theorem dX7_gap_2 : decode cX7_gap 2 = .ok (.if_icmp .ge 9, 3) := by decide +kernel
theorem dX7_gap_5 : decode cX7_gap 5 = .ok (.iload_n 1, 1) := by decide +kernel
theorem dX7_gap_6 : decode cX7_gap 6 = .ok (.iload_n 0, 1) := by decide +kernel
theorem dX7_gap_7 : decode cX7_gap 7 = .ok (.isub, 1) := by decide +kernel
theorem dX7_gap_8 : decode cX7_gap 8 = .ok (.goto 6, 3) := by decide +kernel
theorem dX7_gap_11 : decode cX7_gap 11 = .ok (.iload_n 0, 1) := by decide +kernel
theorem dX7_gap_12 : decode cX7_gap 12 = .ok (.iload_n 1, 1) := by decide +kernel
theorem dX7_gap_13 : decode cX7_gap 13 = .ok (.isub, 1) := by decide +kernel
theorem dX7_gap_14 : decode cX7_gap 14 = .ok (.ireturn, 1) := by decide +kernel
theorem dX7_hears_0 : decode cX7_hears 0 = .ok (.iload_n 2, 1) := by decide +kernel
theorem dX7_hears_1 : decode cX7_hears 1 = .ok (.aload_n 0, 1) := by decide +kernel
theorem dX7_hears_2 : decode cX7_hears 2 = .ok (.getfield 7, 3) := by decide +kernel
theorem dX7_hears_5 : decode cX7_hears 5 = .ok (.iload_n 1, 1) := by decide +kernel
theorem dX7_hears_6 : decode cX7_hears 6 = .ok (.bipush 30, 2) := by decide +kernel
theorem dX7_hears_8 : decode cX7_hears 8 = .ok (.iadd, 1) := by decide +kernel
theorem dX7_hears_9 : decode cX7_hears 9 = .ok (.aload_n 0, 1) := by decide +kernel
theorem dX7_hears_10 : decode cX7_hears 10 = .ok (.getfield 7, 3) := by decide +kernel
theorem dX7_hears_13 : decode cX7_hears 13 = .ok (.iload_n 1, 1) := by decide +kernel
theorem dX7_hears_14 : decode cX7_hears 14 = .ok (.iconst 4, 1) := by decide +kernel
theorem dX7_hears_15 : decode cX7_hears 15 = .ok (.iadd, 1) := by decide +kernel
theorem dX7_hears_16 : decode cX7_hears 16 = .ok (.iaload, 1) := by decide +kernel
theorem dX7_hears_17 : decode cX7_hears 17 = .ok (.aload_n 0, 1) := by decide +kernel
theorem dX7_hears_18 : decode cX7_hears 18 = .ok (.getfield 7, 3) := by decide +kernel
theorem dX7_hears_21 : decode cX7_hears 21 = .ok (.iload_n 1, 1) := by decide +kernel
theorem dX7_hears_22 : decode cX7_hears 22 = .ok (.iconst 1, 1) := by decide +kernel
theorem dX7_hears_23 : decode cX7_hears 23 = .ok (.iadd, 1) := by decide +kernel
theorem dX7_hears_24 : decode cX7_hears 24 = .ok (.iaload, 1) := by decide +kernel
theorem dX7_hears_25 : decode cX7_hears 25 = .ok (.irem, 1) := by decide +kernel
theorem dX7_hears_26 : decode cX7_hears 26 = .ok (.iadd, 1) := by decide +kernel
theorem dX7_hears_27 : decode cX7_hears 27 = .ok (.iaload, 1) := by decide +kernel
theorem dX7_hears_28 : decode cX7_hears 28 = .ok (.invokestatic 124, 3) := by decide +kernel
theorem dX7_hears_31 : decode cX7_hears 31 = .ok (.aload_n 0, 1) := by decide +kernel
theorem dX7_hears_32 : decode cX7_hears 32 = .ok (.getfield 7, 3) := by decide +kernel
theorem dX7_hears_35 : decode cX7_hears 35 = .ok (.iload_n 1, 1) := by decide +kernel
theorem dX7_hears_36 : decode cX7_hears 36 = .ok (.iconst 2, 1) := by decide +kernel
theorem dX7_hears_37 : decode cX7_hears 37 = .ok (.iadd, 1) := by decide +kernel
theorem dX7_hears_38 : decode cX7_hears 38 = .ok (.iaload, 1) := by decide +kernel
theorem dX7_hears_39 : decode cX7_hears 39 = .ok (.if_icmp .gt 7, 3) := by decide +kernel
theorem dX7_hears_42 : decode cX7_hears 42 = .ok (.iconst 1, 1) := by decide +kernel
theorem dX7_hears_43 : decode cX7_hears 43 = .ok (.goto 4, 3) := by decide +kernel
theorem dX7_hears_46 : decode cX7_hears 46 = .ok (.iconst 0, 1) := by decide +kernel
theorem dX7_hears_47 : decode cX7_hears 47 = .ok (.ireturn, 1) := by decide +kernel
theorem dX7_bounded_0 : decode cX7_bounded 0 = .ok (.iload_n 0, 1) := by decide +kernel
theorem dX7_bounded_1 : decode cX7_bounded 1 = .ok (.ifCond .ge 7, 3) := by decide +kernel
theorem dX7_bounded_4 : decode cX7_bounded 4 = .ok (.iconst 0, 1) := by decide +kernel
theorem dX7_bounded_5 : decode cX7_bounded 5 = .ok (.goto 15, 3) := by decide +kernel
theorem dX7_bounded_8 : decode cX7_bounded 8 = .ok (.iload_n 0, 1) := by decide +kernel
theorem dX7_bounded_9 : decode cX7_bounded 9 = .ok (.bipush 20, 2) := by decide +kernel
theorem dX7_bounded_11 : decode cX7_bounded 11 = .ok (.if_icmp .le 8, 3) := by decide +kernel
theorem dX7_bounded_14 : decode cX7_bounded 14 = .ok (.bipush 20, 2) := by decide +kernel
theorem dX7_bounded_16 : decode cX7_bounded 16 = .ok (.goto 4, 3) := by decide +kernel
theorem dX7_bounded_19 : decode cX7_bounded 19 = .ok (.iload_n 0, 1) := by decide +kernel
theorem dX7_bounded_20 : decode cX7_bounded 20 = .ok (.ireturn, 1) := by decide +kernel
theorem dX7_deepBy_0 : decode cX7_deepBy 0 = .ok (.iload_n 0, 1) := by decide +kernel
theorem dX7_deepBy_1 : decode cX7_deepBy 1 = .ok (.tableswitch 99 2 5 #[31, 60, 77, 84], 31) := by decide +kernel
theorem dX7_deepBy_32 : decode cX7_deepBy 32 = .ok (.iload_n 2, 1) := by decide +kernel
theorem dX7_deepBy_33 : decode cX7_deepBy 33 = .ok (.ifCond .eq 21, 3) := by decide +kernel
theorem dX7_deepBy_36 : decode cX7_deepBy 36 = .ok (.iload_n 3, 1) := by decide +kernel
theorem dX7_deepBy_37 : decode cX7_deepBy 37 = .ok (.iconst 4, 1) := by decide +kernel
theorem dX7_deepBy_38 : decode cX7_deepBy 38 = .ok (.irem, 1) := by decide +kernel
theorem dX7_deepBy_39 : decode cX7_deepBy 39 = .ok (.ifCond .ne 9, 3) := by decide +kernel
theorem dX7_deepBy_42 : decode cX7_deepBy 42 = .ok (.iload_n 1, 1) := by decide +kernel
theorem dX7_deepBy_43 : decode cX7_deepBy 43 = .ok (.iconst 4, 1) := by decide +kernel
theorem dX7_deepBy_44 : decode cX7_deepBy 44 = .ok (.iadd, 1) := by decide +kernel
theorem dX7_deepBy_45 : decode cX7_deepBy 45 = .ok (.goto 12, 3) := by decide +kernel
theorem dX7_deepBy_48 : decode cX7_deepBy 48 = .ok (.iload_n 1, 1) := by decide +kernel
theorem dX7_deepBy_49 : decode cX7_deepBy 49 = .ok (.iconst 2, 1) := by decide +kernel
theorem dX7_deepBy_50 : decode cX7_deepBy 50 = .ok (.iadd, 1) := by decide +kernel
theorem dX7_deepBy_51 : decode cX7_deepBy 51 = .ok (.goto 6, 3) := by decide +kernel
theorem dX7_deepBy_54 : decode cX7_deepBy 54 = .ok (.iload_n 1, 1) := by decide +kernel
theorem dX7_deepBy_55 : decode cX7_deepBy 55 = .ok (.iconst 1, 1) := by decide +kernel
theorem dX7_deepBy_56 : decode cX7_deepBy 56 = .ok (.isub, 1) := by decide +kernel
theorem dX7_deepBy_57 : decode cX7_deepBy 57 = .ok (.invokestatic 128, 3) := by decide +kernel
theorem dX7_deepBy_60 : decode cX7_deepBy 60 = .ok (.ireturn, 1) := by decide +kernel
theorem dX7_deepBy_61 : decode cX7_deepBy 61 = .ok (.iload_n 2, 1) := by decide +kernel
theorem dX7_deepBy_62 : decode cX7_deepBy 62 = .ok (.ifCond .eq 9, 3) := by decide +kernel
theorem dX7_deepBy_65 : decode cX7_deepBy 65 = .ok (.iload_n 1, 1) := by decide +kernel
theorem dX7_deepBy_66 : decode cX7_deepBy 66 = .ok (.iconst 2, 1) := by decide +kernel
theorem dX7_deepBy_67 : decode cX7_deepBy 67 = .ok (.iadd, 1) := by decide +kernel
theorem dX7_deepBy_68 : decode cX7_deepBy 68 = .ok (.goto 6, 3) := by decide +kernel
theorem dX7_deepBy_71 : decode cX7_deepBy 71 = .ok (.iload_n 1, 1) := by decide +kernel
theorem dX7_deepBy_72 : decode cX7_deepBy 72 = .ok (.iconst 3, 1) := by decide +kernel
theorem dX7_deepBy_73 : decode cX7_deepBy 73 = .ok (.isub, 1) := by decide +kernel
theorem dX7_deepBy_74 : decode cX7_deepBy 74 = .ok (.invokestatic 128, 3) := by decide +kernel
theorem dX7_deepBy_77 : decode cX7_deepBy 77 = .ok (.ireturn, 1) := by decide +kernel
theorem dX7_deepBy_78 : decode cX7_deepBy 78 = .ok (.iload_n 1, 1) := by decide +kernel
theorem dX7_deepBy_79 : decode cX7_deepBy 79 = .ok (.iconst 1, 1) := by decide +kernel
theorem dX7_deepBy_80 : decode cX7_deepBy 80 = .ok (.isub, 1) := by decide +kernel
theorem dX7_deepBy_81 : decode cX7_deepBy 81 = .ok (.invokestatic 128, 3) := by decide +kernel
theorem dX7_deepBy_84 : decode cX7_deepBy 84 = .ok (.ireturn, 1) := by decide +kernel
theorem dX7_deepBy_85 : decode cX7_deepBy 85 = .ok (.iload_n 2, 1) := by decide +kernel
theorem dX7_deepBy_86 : decode cX7_deepBy 86 = .ok (.ifCond .eq 12, 3) := by decide +kernel
theorem dX7_deepBy_89 : decode cX7_deepBy 89 = .ok (.iload_n 1, 1) := by decide +kernel
theorem dX7_deepBy_90 : decode cX7_deepBy 90 = .ok (.iconst 1, 1) := by decide +kernel
theorem dX7_deepBy_91 : decode cX7_deepBy 91 = .ok (.isub, 1) := by decide +kernel
theorem dX7_deepBy_92 : decode cX7_deepBy 92 = .ok (.invokestatic 128, 3) := by decide +kernel
theorem dX7_deepBy_95 : decode cX7_deepBy 95 = .ok (.goto 4, 3) := by decide +kernel
theorem dX7_deepBy_98 : decode cX7_deepBy 98 = .ok (.iconst 0, 1) := by decide +kernel
theorem dX7_deepBy_99 : decode cX7_deepBy 99 = .ok (.ireturn, 1) := by decide +kernel
theorem dX7_deepBy_100 : decode cX7_deepBy 100 = .ok (.iload_n 2, 1) := by decide +kernel
theorem dX7_deepBy_101 : decode cX7_deepBy 101 = .ok (.ifCond .eq 9, 3) := by decide +kernel
theorem dX7_deepBy_104 : decode cX7_deepBy 104 = .ok (.iload_n 1, 1) := by decide +kernel
theorem dX7_deepBy_105 : decode cX7_deepBy 105 = .ok (.iconst 2, 1) := by decide +kernel
theorem dX7_deepBy_106 : decode cX7_deepBy 106 = .ok (.iadd, 1) := by decide +kernel
theorem dX7_deepBy_107 : decode cX7_deepBy 107 = .ok (.goto 6, 3) := by decide +kernel
theorem dX7_deepBy_110 : decode cX7_deepBy 110 = .ok (.iload_n 1, 1) := by decide +kernel
theorem dX7_deepBy_111 : decode cX7_deepBy 111 = .ok (.iconst 1, 1) := by decide +kernel
theorem dX7_deepBy_112 : decode cX7_deepBy 112 = .ok (.isub, 1) := by decide +kernel
theorem dX7_deepBy_113 : decode cX7_deepBy 113 = .ok (.invokestatic 128, 3) := by decide +kernel
theorem dX7_deepBy_116 : decode cX7_deepBy 116 = .ok (.ireturn, 1) := by decide +kernel
theorem dX7_robbedIn_0 : decode cX7_robbedIn 0 = .ok (.aload_n 0, 1) := by decide +kernel
theorem dX7_robbedIn_1 : decode cX7_robbedIn 1 = .ok (.getfield 7, 3) := by decide +kernel
theorem dX7_robbedIn_4 : decode cX7_robbedIn 4 = .ok (.iload_n 1, 1) := by decide +kernel
theorem dX7_robbedIn_5 : decode cX7_robbedIn 5 = .ok (.bipush 14, 2) := by decide +kernel
theorem dX7_robbedIn_7 : decode cX7_robbedIn 7 = .ok (.iadd, 1) := by decide +kernel
theorem dX7_robbedIn_8 : decode cX7_robbedIn 8 = .ok (.iload_n 2, 1) := by decide +kernel
theorem dX7_robbedIn_9 : decode cX7_robbedIn 9 = .ok (.iadd, 1) := by decide +kernel
theorem dX7_robbedIn_10 : decode cX7_robbedIn 10 = .ok (.iaload, 1) := by decide +kernel
theorem dX7_robbedIn_11 : decode cX7_robbedIn 11 = .ok (.ifCond .eq 12, 3) := by decide +kernel
theorem dX7_robbedIn_14 : decode cX7_robbedIn 14 = .ok (.aload_n 0, 1) := by decide +kernel
theorem dX7_robbedIn_15 : decode cX7_robbedIn 15 = .ok (.iload_n 1, 1) := by decide +kernel
theorem dX7_robbedIn_16 : decode cX7_robbedIn 16 = .ok (.iload_n 2, 1) := by decide +kernel
theorem dX7_robbedIn_17 : decode cX7_robbedIn 17 = .ok (.invokevirtual 131, 3) := by decide +kernel
theorem dX7_robbedIn_20 : decode cX7_robbedIn 20 = .ok (.ifCond .eq 5, 3) := by decide +kernel
theorem dX7_robbedIn_23 : decode cX7_robbedIn 23 = .ok (.iconst 0, 1) := by decide +kernel
theorem dX7_robbedIn_24 : decode cX7_robbedIn 24 = .ok (.ireturn, 1) := by decide +kernel
theorem dX7_robbedIn_25 : decode cX7_robbedIn 25 = .ok (.aload_n 0, 1) := by decide +kernel
theorem dX7_robbedIn_26 : decode cX7_robbedIn 26 = .ok (.getfield 7, 3) := by decide +kernel
theorem dX7_robbedIn_29 : decode cX7_robbedIn 29 = .ok (.iload_n 1, 1) := by decide +kernel
theorem dX7_robbedIn_30 : decode cX7_robbedIn 30 = .ok (.bipush 22, 2) := by decide +kernel
theorem dX7_robbedIn_32 : decode cX7_robbedIn 32 = .ok (.iadd, 1) := by decide +kernel
theorem dX7_robbedIn_33 : decode cX7_robbedIn 33 = .ok (.iload_n 2, 1) := by decide +kernel
theorem dX7_robbedIn_34 : decode cX7_robbedIn 34 = .ok (.iadd, 1) := by decide +kernel
theorem dX7_robbedIn_35 : decode cX7_robbedIn 35 = .ok (.iaload, 1) := by decide +kernel
theorem dX7_robbedIn_36 : decode cX7_robbedIn 36 = .ok (.aload_n 0, 1) := by decide +kernel
theorem dX7_robbedIn_37 : decode cX7_robbedIn 37 = .ok (.getfield 7, 3) := by decide +kernel
theorem dX7_robbedIn_40 : decode cX7_robbedIn 40 = .ok (.iload_n 1, 1) := by decide +kernel
theorem dX7_robbedIn_41 : decode cX7_robbedIn 41 = .ok (.iconst 3, 1) := by decide +kernel
theorem dX7_robbedIn_42 : decode cX7_robbedIn 42 = .ok (.iadd, 1) := by decide +kernel
theorem dX7_robbedIn_43 : decode cX7_robbedIn 43 = .ok (.iaload, 1) := by decide +kernel
theorem dX7_robbedIn_44 : decode cX7_robbedIn 44 = .ok (.if_icmp .ge 17, 3) := by decide +kernel
theorem dX7_robbedIn_47 : decode cX7_robbedIn 47 = .ok (.aload_n 0, 1) := by decide +kernel
theorem dX7_robbedIn_48 : decode cX7_robbedIn 48 = .ok (.getfield 7, 3) := by decide +kernel
theorem dX7_robbedIn_51 : decode cX7_robbedIn 51 = .ok (.iload_n 1, 1) := by decide +kernel
theorem dX7_robbedIn_52 : decode cX7_robbedIn 52 = .ok (.bipush 22, 2) := by decide +kernel
theorem dX7_robbedIn_54 : decode cX7_robbedIn 54 = .ok (.iadd, 1) := by decide +kernel
theorem dX7_robbedIn_55 : decode cX7_robbedIn 55 = .ok (.iload_n 2, 1) := by decide +kernel
theorem dX7_robbedIn_56 : decode cX7_robbedIn 56 = .ok (.iadd, 1) := by decide +kernel
theorem dX7_robbedIn_57 : decode cX7_robbedIn 57 = .ok (.iaload, 1) := by decide +kernel
theorem dX7_robbedIn_58 : decode cX7_robbedIn 58 = .ok (.goto 11, 3) := by decide +kernel
theorem dX7_robbedIn_61 : decode cX7_robbedIn 61 = .ok (.aload_n 0, 1) := by decide +kernel
theorem dX7_robbedIn_62 : decode cX7_robbedIn 62 = .ok (.getfield 7, 3) := by decide +kernel
theorem dX7_robbedIn_65 : decode cX7_robbedIn 65 = .ok (.iload_n 1, 1) := by decide +kernel
theorem dX7_robbedIn_66 : decode cX7_robbedIn 66 = .ok (.iconst 3, 1) := by decide +kernel
theorem dX7_robbedIn_67 : decode cX7_robbedIn 67 = .ok (.iadd, 1) := by decide +kernel
theorem dX7_robbedIn_68 : decode cX7_robbedIn 68 = .ok (.iaload, 1) := by decide +kernel
theorem dX7_robbedIn_69 : decode cX7_robbedIn 69 = .ok (.ireturn, 1) := by decide +kernel
theorem dX7_passes_0 : decode cX7_passes 0 = .ok (.iconst 0, 1) := by decide +kernel
theorem dX7_passes_1 : decode cX7_passes 1 = .ok (.istore_n 2, 1) := by decide +kernel
theorem dX7_passes_2 : decode cX7_passes 2 = .ok (.iconst 0, 1) := by decide +kernel
theorem dX7_passes_3 : decode cX7_passes 3 = .ok (.istore_n 3, 1) := by decide +kernel
theorem dX7_passes_4 : decode cX7_passes 4 = .ok (.iload_n 3, 1) := by decide +kernel
theorem dX7_passes_5 : decode cX7_passes 5 = .ok (.aload_n 0, 1) := by decide +kernel
theorem dX7_passes_6 : decode cX7_passes 6 = .ok (.getfield 7, 3) := by decide +kernel
theorem dX7_passes_9 : decode cX7_passes 9 = .ok (.iload_n 1, 1) := by decide +kernel
theorem dX7_passes_10 : decode cX7_passes 10 = .ok (.iconst 0, 1) := by decide +kernel
theorem dX7_passes_11 : decode cX7_passes 11 = .ok (.iadd, 1) := by decide +kernel
theorem dX7_passes_12 : decode cX7_passes 12 = .ok (.iaload, 1) := by decide +kernel
theorem dX7_passes_13 : decode cX7_passes 13 = .ok (.if_icmp .ge 88, 3) := by decide +kernel
theorem dX7_passes_16 : decode cX7_passes 16 = .ok (.aload_n 0, 1) := by decide +kernel
theorem dX7_passes_17 : decode cX7_passes 17 = .ok (.iload_n 1, 1) := by decide +kernel
theorem dX7_passes_18 : decode cX7_passes 18 = .ok (.iload_n 3, 1) := by decide +kernel
theorem dX7_passes_19 : decode cX7_passes 19 = .ok (.invokevirtual 134, 3) := by decide +kernel
theorem dX7_passes_22 : decode cX7_passes 22 = .ok (.istore 4, 2) := by decide +kernel
theorem dX7_passes_24 : decode cX7_passes 24 = .ok (.iload_n 2, 1) := by decide +kernel
theorem dX7_passes_25 : decode cX7_passes 25 = .ok (.iload 4, 2) := by decide +kernel
theorem dX7_passes_27 : decode cX7_passes 27 = .ok (.iadd, 1) := by decide +kernel
theorem dX7_passes_28 : decode cX7_passes 28 = .ok (.istore_n 2, 1) := by decide +kernel
theorem dX7_passes_29 : decode cX7_passes 29 = .ok (.aload_n 0, 1) := by decide +kernel
theorem dX7_passes_30 : decode cX7_passes 30 = .ok (.getfield 7, 3) := by decide +kernel
theorem dX7_passes_33 : decode cX7_passes 33 = .ok (.iload_n 1, 1) := by decide +kernel
theorem dX7_passes_34 : decode cX7_passes 34 = .ok (.bipush 22, 2) := by decide +kernel
theorem dX7_passes_36 : decode cX7_passes 36 = .ok (.iadd, 1) := by decide +kernel
theorem dX7_passes_37 : decode cX7_passes 37 = .ok (.iload_n 3, 1) := by decide +kernel
theorem dX7_passes_38 : decode cX7_passes 38 = .ok (.iadd, 1) := by decide +kernel
theorem dX7_passes_39 : decode cX7_passes 39 = .ok (.dup2, 1) := by decide +kernel
theorem dX7_passes_40 : decode cX7_passes 40 = .ok (.iaload, 1) := by decide +kernel
theorem dX7_passes_41 : decode cX7_passes 41 = .ok (.iload 4, 2) := by decide +kernel
theorem dX7_passes_43 : decode cX7_passes 43 = .ok (.isub, 1) := by decide +kernel
theorem dX7_passes_44 : decode cX7_passes 44 = .ok (.iastore, 1) := by decide +kernel
theorem dX7_passes_45 : decode cX7_passes 45 = .ok (.aload_n 0, 1) := by decide +kernel
theorem dX7_passes_46 : decode cX7_passes 46 = .ok (.getfield 7, 3) := by decide +kernel
theorem dX7_passes_49 : decode cX7_passes 49 = .ok (.iload_n 1, 1) := by decide +kernel
theorem dX7_passes_50 : decode cX7_passes 50 = .ok (.bipush 14, 2) := by decide +kernel
theorem dX7_passes_52 : decode cX7_passes 52 = .ok (.iadd, 1) := by decide +kernel
theorem dX7_passes_53 : decode cX7_passes 53 = .ok (.iload_n 3, 1) := by decide +kernel
theorem dX7_passes_54 : decode cX7_passes 54 = .ok (.iadd, 1) := by decide +kernel
theorem dX7_passes_55 : decode cX7_passes 55 = .ok (.aload_n 0, 1) := by decide +kernel
theorem dX7_passes_56 : decode cX7_passes 56 = .ok (.getfield 7, 3) := by decide +kernel
theorem dX7_passes_59 : decode cX7_passes 59 = .ok (.iload_n 1, 1) := by decide +kernel
theorem dX7_passes_60 : decode cX7_passes 60 = .ok (.bipush 6, 2) := by decide +kernel
theorem dX7_passes_62 : decode cX7_passes 62 = .ok (.iadd, 1) := by decide +kernel
theorem dX7_passes_63 : decode cX7_passes 63 = .ok (.iload_n 3, 1) := by decide +kernel
theorem dX7_passes_64 : decode cX7_passes 64 = .ok (.iadd, 1) := by decide +kernel
theorem dX7_passes_65 : decode cX7_passes 65 = .ok (.iaload, 1) := by decide +kernel
theorem dX7_passes_66 : decode cX7_passes 66 = .ok (.aload_n 0, 1) := by decide +kernel
theorem dX7_passes_67 : decode cX7_passes 67 = .ok (.getfield 7, 3) := by decide +kernel
theorem dX7_passes_70 : decode cX7_passes 70 = .ok (.iload_n 1, 1) := by decide +kernel
theorem dX7_passes_71 : decode cX7_passes 71 = .ok (.bipush 14, 2) := by decide +kernel
theorem dX7_passes_73 : decode cX7_passes 73 = .ok (.iadd, 1) := by decide +kernel
theorem dX7_passes_74 : decode cX7_passes 74 = .ok (.iload_n 3, 1) := by decide +kernel
theorem dX7_passes_75 : decode cX7_passes 75 = .ok (.iadd, 1) := by decide +kernel
theorem dX7_passes_76 : decode cX7_passes 76 = .ok (.iaload, 1) := by decide +kernel
theorem dX7_passes_77 : decode cX7_passes 77 = .ok (.aload_n 0, 1) := by decide +kernel
theorem dX7_passes_78 : decode cX7_passes 78 = .ok (.iload_n 1, 1) := by decide +kernel
theorem dX7_passes_79 : decode cX7_passes 79 = .ok (.iload_n 3, 1) := by decide +kernel
theorem dX7_passes_80 : decode cX7_passes 80 = .ok (.invokevirtual 131, 3) := by decide +kernel
theorem dX7_passes_83 : decode cX7_passes 83 = .ok (.aload_n 0, 1) := by decide +kernel
theorem dX7_passes_84 : decode cX7_passes 84 = .ok (.getfield 7, 3) := by decide +kernel
theorem dX7_passes_87 : decode cX7_passes 87 = .ok (.iload_n 1, 1) := by decide +kernel
theorem dX7_passes_88 : decode cX7_passes 88 = .ok (.iconst 4, 1) := by decide +kernel
theorem dX7_passes_89 : decode cX7_passes 89 = .ok (.iadd, 1) := by decide +kernel
theorem dX7_passes_90 : decode cX7_passes 90 = .ok (.iaload, 1) := by decide +kernel
theorem dX7_passes_91 : decode cX7_passes 91 = .ok (.invokestatic 137, 3) := by decide +kernel
theorem dX7_passes_94 : decode cX7_passes 94 = .ok (.iastore, 1) := by decide +kernel
theorem dX7_passes_95 : decode cX7_passes 95 = .ok (.iinc 3 1, 3) := by decide +kernel
theorem dX7_passes_98 : decode cX7_passes 98 = .ok (.goto (-94), 3) := by decide +kernel
theorem dX7_passes_101 : decode cX7_passes 101 = .ok (.aload_n 0, 1) := by decide +kernel
theorem dX7_passes_102 : decode cX7_passes 102 = .ok (.getfield 7, 3) := by decide +kernel
theorem dX7_passes_105 : decode cX7_passes 105 = .ok (.iload_n 1, 1) := by decide +kernel
theorem dX7_passes_106 : decode cX7_passes 106 = .ok (.iconst 5, 1) := by decide +kernel
theorem dX7_passes_107 : decode cX7_passes 107 = .ok (.iadd, 1) := by decide +kernel
theorem dX7_passes_108 : decode cX7_passes 108 = .ok (.aload_n 0, 1) := by decide +kernel
theorem dX7_passes_109 : decode cX7_passes 109 = .ok (.getfield 7, 3) := by decide +kernel
theorem dX7_passes_112 : decode cX7_passes 112 = .ok (.iload_n 1, 1) := by decide +kernel
theorem dX7_passes_113 : decode cX7_passes 113 = .ok (.iconst 5, 1) := by decide +kernel
theorem dX7_passes_114 : decode cX7_passes 114 = .ok (.iadd, 1) := by decide +kernel
theorem dX7_passes_115 : decode cX7_passes 115 = .ok (.iaload, 1) := by decide +kernel
theorem dX7_passes_116 : decode cX7_passes 116 = .ok (.iload_n 2, 1) := by decide +kernel
theorem dX7_passes_117 : decode cX7_passes 117 = .ok (.iadd, 1) := by decide +kernel
theorem dX7_passes_118 : decode cX7_passes 118 = .ok (.ldc 141, 2) := by decide +kernel
theorem dX7_passes_120 : decode cX7_passes 120 = .ok (.if_icmp .le 8, 3) := by decide +kernel
theorem dX7_passes_123 : decode cX7_passes 123 = .ok (.ldc 141, 2) := by decide +kernel
theorem dX7_passes_125 : decode cX7_passes 125 = .ok (.goto 13, 3) := by decide +kernel
theorem dX7_passes_128 : decode cX7_passes 128 = .ok (.aload_n 0, 1) := by decide +kernel
theorem dX7_passes_129 : decode cX7_passes 129 = .ok (.getfield 7, 3) := by decide +kernel
theorem dX7_passes_132 : decode cX7_passes 132 = .ok (.iload_n 1, 1) := by decide +kernel
theorem dX7_passes_133 : decode cX7_passes 133 = .ok (.iconst 5, 1) := by decide +kernel
theorem dX7_passes_134 : decode cX7_passes 134 = .ok (.iadd, 1) := by decide +kernel
theorem dX7_passes_135 : decode cX7_passes 135 = .ok (.iaload, 1) := by decide +kernel
theorem dX7_passes_136 : decode cX7_passes 136 = .ok (.iload_n 2, 1) := by decide +kernel
theorem dX7_passes_137 : decode cX7_passes 137 = .ok (.iadd, 1) := by decide +kernel
theorem dX7_passes_138 : decode cX7_passes 138 = .ok (.iastore, 1) := by decide +kernel
theorem dX7_passes_139 : decode cX7_passes 139 = .ok (.aload_n 0, 1) := by decide +kernel
theorem dX7_passes_140 : decode cX7_passes 140 = .ok (.getfield 7, 3) := by decide +kernel
theorem dX7_passes_143 : decode cX7_passes 143 = .ok (.iload_n 1, 1) := by decide +kernel
theorem dX7_passes_144 : decode cX7_passes 144 = .ok (.iconst 4, 1) := by decide +kernel
theorem dX7_passes_145 : decode cX7_passes 145 = .ok (.iadd, 1) := by decide +kernel
theorem dX7_passes_146 : decode cX7_passes 146 = .ok (.dup2, 1) := by decide +kernel
theorem dX7_passes_147 : decode cX7_passes 147 = .ok (.iaload, 1) := by decide +kernel
theorem dX7_passes_148 : decode cX7_passes 148 = .ok (.iconst 1, 1) := by decide +kernel
theorem dX7_passes_149 : decode cX7_passes 149 = .ok (.iadd, 1) := by decide +kernel
theorem dX7_passes_150 : decode cX7_passes 150 = .ok (.iastore, 1) := by decide +kernel
theorem dX7_passes_151 : decode cX7_passes 151 = .ok (.return_, 1) := by decide +kernel
theorem dX7_awake_0 : decode cX7_awake 0 = .ok (.iconst 0, 1) := by decide +kernel
theorem dX7_awake_1 : decode cX7_awake 1 = .ok (.istore_n 2, 1) := by decide +kernel
theorem dX7_awake_2 : decode cX7_awake 2 = .ok (.iconst 0, 1) := by decide +kernel
theorem dX7_awake_3 : decode cX7_awake 3 = .ok (.istore_n 3, 1) := by decide +kernel
theorem dX7_awake_4 : decode cX7_awake 4 = .ok (.iload_n 3, 1) := by decide +kernel
theorem dX7_awake_5 : decode cX7_awake 5 = .ok (.aload_n 0, 1) := by decide +kernel
theorem dX7_awake_6 : decode cX7_awake 6 = .ok (.getfield 7, 3) := by decide +kernel
theorem dX7_awake_9 : decode cX7_awake 9 = .ok (.iload_n 1, 1) := by decide +kernel
theorem dX7_awake_10 : decode cX7_awake 10 = .ok (.iconst 0, 1) := by decide +kernel
theorem dX7_awake_11 : decode cX7_awake 11 = .ok (.iadd, 1) := by decide +kernel
theorem dX7_awake_12 : decode cX7_awake 12 = .ok (.iaload, 1) := by decide +kernel
theorem dX7_awake_13 : decode cX7_awake 13 = .ok (.if_icmp .ge 33, 3) := by decide +kernel
theorem dX7_awake_16 : decode cX7_awake 16 = .ok (.iload_n 2, 1) := by decide +kernel
theorem dX7_awake_17 : decode cX7_awake 17 = .ok (.aload_n 0, 1) := by decide +kernel
theorem dX7_awake_18 : decode cX7_awake 18 = .ok (.getfield 7, 3) := by decide +kernel
theorem dX7_awake_21 : decode cX7_awake 21 = .ok (.iload_n 1, 1) := by decide +kernel
theorem dX7_awake_22 : decode cX7_awake 22 = .ok (.bipush 14, 2) := by decide +kernel
theorem dX7_awake_24 : decode cX7_awake 24 = .ok (.iadd, 1) := by decide +kernel
theorem dX7_awake_25 : decode cX7_awake 25 = .ok (.iload_n 3, 1) := by decide +kernel
theorem dX7_awake_26 : decode cX7_awake 26 = .ok (.iadd, 1) := by decide +kernel
theorem dX7_awake_27 : decode cX7_awake 27 = .ok (.iaload, 1) := by decide +kernel
theorem dX7_awake_28 : decode cX7_awake 28 = .ok (.ifCond .ne 9, 3) := by decide +kernel
theorem dX7_awake_31 : decode cX7_awake 31 = .ok (.iconst 1, 1) := by decide +kernel
theorem dX7_awake_32 : decode cX7_awake 32 = .ok (.iload_n 3, 1) := by decide +kernel
theorem dX7_awake_33 : decode cX7_awake 33 = .ok (.ishl, 1) := by decide +kernel
theorem dX7_awake_34 : decode cX7_awake 34 = .ok (.goto 4, 3) := by decide +kernel
theorem dX7_awake_37 : decode cX7_awake 37 = .ok (.iconst 0, 1) := by decide +kernel
theorem dX7_awake_38 : decode cX7_awake 38 = .ok (.ior, 1) := by decide +kernel
theorem dX7_awake_39 : decode cX7_awake 39 = .ok (.istore_n 2, 1) := by decide +kernel
theorem dX7_awake_40 : decode cX7_awake 40 = .ok (.iinc 3 1, 3) := by decide +kernel
theorem dX7_awake_43 : decode cX7_awake 43 = .ok (.goto (-39), 3) := by decide +kernel
theorem dX7_awake_46 : decode cX7_awake 46 = .ok (.iload_n 2, 1) := by decide +kernel
theorem dX7_awake_47 : decode cX7_awake 47 = .ok (.ireturn, 1) := by decide +kernel
theorem dX7_minds_0 : decode cX7_minds 0 = .ok (.aload_n 0, 1) := by decide +kernel
theorem dX7_minds_1 : decode cX7_minds 1 = .ok (.getfield 121, 3) := by decide +kernel
theorem dX7_minds_4 : decode cX7_minds 4 = .ok (.bipush 24, 2) := by decide +kernel
theorem dX7_minds_6 : decode cX7_minds 6 = .ok (.if_icmp .ne 51, 3) := by decide +kernel
theorem dX7_minds_9 : decode cX7_minds 9 = .ok (.iconst 0, 1) := by decide +kernel
theorem dX7_minds_10 : decode cX7_minds 10 = .ok (.istore_n 1, 1) := by decide +kernel
theorem dX7_minds_11 : decode cX7_minds 11 = .ok (.iload_n 1, 1) := by decide +kernel
theorem dX7_minds_12 : decode cX7_minds 12 = .ok (.sipush 874, 3) := by decide +kernel
theorem dX7_minds_15 : decode cX7_minds 15 = .ok (.if_icmp .ge 32, 3) := by decide +kernel
theorem dX7_minds_18 : decode cX7_minds 18 = .ok (.aload_n 0, 1) := by decide +kernel
theorem dX7_minds_19 : decode cX7_minds 19 = .ok (.getfield 7, 3) := by decide +kernel
theorem dX7_minds_22 : decode cX7_minds 22 = .ok (.sipush 190, 3) := by decide +kernel
theorem dX7_minds_25 : decode cX7_minds 25 = .ok (.iload_n 1, 1) := by decide +kernel
theorem dX7_minds_26 : decode cX7_minds 26 = .ok (.iadd, 1) := by decide +kernel
theorem dX7_minds_27 : decode cX7_minds 27 = .ok (.aload_n 0, 1) := by decide +kernel
theorem dX7_minds_28 : decode cX7_minds 28 = .ok (.getfield 7, 3) := by decide +kernel
theorem dX7_minds_31 : decode cX7_minds 31 = .ok (.sipush 190, 3) := by decide +kernel
theorem dX7_minds_34 : decode cX7_minds 34 = .ok (.iload_n 1, 1) := by decide +kernel
theorem dX7_minds_35 : decode cX7_minds 35 = .ok (.iadd, 1) := by decide +kernel
theorem dX7_minds_36 : decode cX7_minds 36 = .ok (.bipush 38, 2) := by decide +kernel
theorem dX7_minds_38 : decode cX7_minds 38 = .ok (.iadd, 1) := by decide +kernel
theorem dX7_minds_39 : decode cX7_minds 39 = .ok (.iaload, 1) := by decide +kernel
theorem dX7_minds_40 : decode cX7_minds 40 = .ok (.iastore, 1) := by decide +kernel
theorem dX7_minds_41 : decode cX7_minds 41 = .ok (.iinc 1 1, 3) := by decide +kernel
theorem dX7_minds_44 : decode cX7_minds 44 = .ok (.goto (-33), 3) := by decide +kernel
theorem dX7_minds_47 : decode cX7_minds 47 = .ok (.aload_n 0, 1) := by decide +kernel
theorem dX7_minds_48 : decode cX7_minds 48 = .ok (.dup, 1) := by decide +kernel
theorem dX7_minds_49 : decode cX7_minds 49 = .ok (.getfield 121, 3) := by decide +kernel
theorem dX7_minds_52 : decode cX7_minds 52 = .ok (.iconst 1, 1) := by decide +kernel
theorem dX7_minds_53 : decode cX7_minds 53 = .ok (.isub, 1) := by decide +kernel
theorem dX7_minds_54 : decode cX7_minds 54 = .ok (.putfield 121, 3) := by decide +kernel
theorem dX7_minds_57 : decode cX7_minds 57 = .ok (.aload_n 0, 1) := by decide +kernel
theorem dX7_minds_58 : decode cX7_minds 58 = .ok (.iconst 0, 1) := by decide +kernel
theorem dX7_minds_59 : decode cX7_minds 59 = .ok (.sipush 190, 3) := by decide +kernel
theorem dX7_minds_62 : decode cX7_minds 62 = .ok (.bipush 38, 2) := by decide +kernel
theorem dX7_minds_64 : decode cX7_minds 64 = .ok (.aload_n 0, 1) := by decide +kernel
theorem dX7_minds_65 : decode cX7_minds 65 = .ok (.getfield 121, 3) := by decide +kernel
theorem dX7_minds_68 : decode cX7_minds 68 = .ok (.imul, 1) := by decide +kernel
theorem dX7_minds_69 : decode cX7_minds 69 = .ok (.iadd, 1) := by decide +kernel
theorem dX7_minds_70 : decode cX7_minds 70 = .ok (.invokevirtual 117, 3) := by decide +kernel
theorem dX7_minds_73 : decode cX7_minds 73 = .ok (.aload_n 0, 1) := by decide +kernel
theorem dX7_minds_74 : decode cX7_minds 74 = .ok (.dup, 1) := by decide +kernel
theorem dX7_minds_75 : decode cX7_minds 75 = .ok (.getfield 121, 3) := by decide +kernel
theorem dX7_minds_78 : decode cX7_minds 78 = .ok (.iconst 1, 1) := by decide +kernel
theorem dX7_minds_79 : decode cX7_minds 79 = .ok (.iadd, 1) := by decide +kernel
theorem dX7_minds_80 : decode cX7_minds 80 = .ok (.putfield 121, 3) := by decide +kernel
theorem dX7_minds_83 : decode cX7_minds 83 = .ok (.return_, 1) := by decide +kernel
theorem dX7_hours_0 : decode cX7_hours 0 = .ok (.aload_n 0, 1) := by decide +kernel
theorem dX7_hours_1 : decode cX7_hours 1 = .ok (.invokevirtual 142, 3) := by decide +kernel
theorem dX7_hours_4 : decode cX7_hours 4 = .ok (.ifCond .ne 6, 3) := by decide +kernel
theorem dX7_hours_7 : decode cX7_hours 7 = .ok (.ldc 145, 2) := by decide +kernel
theorem dX7_hours_9 : decode cX7_hours 9 = .ok (.ireturn, 1) := by decide +kernel
theorem dX7_hours_10 : decode cX7_hours 10 = .ok (.iload_n 1, 1) := by decide +kernel
theorem dX7_hours_11 : decode cX7_hours 11 = .ok (.i2l, 1) := by decide +kernel
theorem dX7_hours_12 : decode cX7_hours 12 = .ok (.lconst 1, 1) := by decide +kernel
theorem dX7_hours_13 : decode cX7_hours 13 = .ok (.ldc2_w 146, 3) := by decide +kernel
theorem dX7_hours_16 : decode cX7_hours 16 = .ok (.invokestatic 38, 3) := by decide +kernel
theorem dX7_hours_19 : decode cX7_hours 19 = .ok (.ifCond .ne 6, 3) := by decide +kernel
theorem dX7_hours_22 : decode cX7_hours 22 = .ok (.ldc 55, 2) := by decide +kernel
theorem dX7_hours_24 : decode cX7_hours 24 = .ok (.ireturn, 1) := by decide +kernel
theorem dX7_hours_25 : decode cX7_hours 25 = .ok (.aload_n 0, 1) := by decide +kernel
theorem dX7_hours_26 : decode cX7_hours 26 = .ok (.getfield 7, 3) := by decide +kernel
theorem dX7_hours_29 : decode cX7_hours 29 = .ok (.iconst 4, 1) := by decide +kernel
theorem dX7_hours_30 : decode cX7_hours 30 = .ok (.iaload, 1) := by decide +kernel
theorem dX7_hours_31 : decode cX7_hours 31 = .ok (.iload_n 1, 1) := by decide +kernel
theorem dX7_hours_32 : decode cX7_hours 32 = .ok (.iadd, 1) := by decide +kernel
theorem dX7_hours_33 : decode cX7_hours 33 = .ok (.sipush 9999, 3) := by decide +kernel
theorem dX7_hours_36 : decode cX7_hours 36 = .ok (.if_icmp .le 6, 3) := by decide +kernel
theorem dX7_hours_39 : decode cX7_hours 39 = .ok (.ldc 69, 2) := by decide +kernel
theorem dX7_hours_41 : decode cX7_hours 41 = .ok (.ireturn, 1) := by decide +kernel
theorem dX7_hours_42 : decode cX7_hours 42 = .ok (.iconst 0, 1) := by decide +kernel
theorem dX7_hours_43 : decode cX7_hours 43 = .ok (.istore_n 2, 1) := by decide +kernel
theorem dX7_hours_44 : decode cX7_hours 44 = .ok (.iload_n 2, 1) := by decide +kernel
theorem dX7_hours_45 : decode cX7_hours 45 = .ok (.iload_n 1, 1) := by decide +kernel
theorem dX7_hours_46 : decode cX7_hours 46 = .ok (.if_icmp .ge 18, 3) := by decide +kernel
theorem dX7_hours_49 : decode cX7_hours 49 = .ok (.aload_n 0, 1) := by decide +kernel
theorem dX7_hours_50 : decode cX7_hours 50 = .ok (.invokevirtual 148, 3) := by decide +kernel
theorem dX7_hours_53 : decode cX7_hours 53 = .ok (.aload_n 0, 1) := by decide +kernel
theorem dX7_hours_54 : decode cX7_hours 54 = .ok (.iconst 0, 1) := by decide +kernel
theorem dX7_hours_55 : decode cX7_hours 55 = .ok (.invokevirtual 151, 3) := by decide +kernel
theorem dX7_hours_58 : decode cX7_hours 58 = .ok (.iinc 2 1, 3) := by decide +kernel
theorem dX7_hours_61 : decode cX7_hours 61 = .ok (.goto (-17), 3) := by decide +kernel
theorem dX7_hours_64 : decode cX7_hours 64 = .ok (.aload_n 0, 1) := by decide +kernel
theorem dX7_hours_65 : decode cX7_hours 65 = .ok (.iconst 0, 1) := by decide +kernel
theorem dX7_hours_66 : decode cX7_hours 66 = .ok (.invokevirtual 155, 3) := by decide +kernel
theorem dX7_hours_69 : decode cX7_hours 69 = .ok (.ireturn, 1) := by decide +kernel
theorem dX7_beat_0 : decode cX7_beat 0 = .ok (.iload_n 1, 1) := by decide +kernel
theorem dX7_beat_1 : decode cX7_beat 1 = .ok (.i2l, 1) := by decide +kernel
theorem dX7_beat_2 : decode cX7_beat 2 = .ok (.lconst 0, 1) := by decide +kernel
theorem dX7_beat_3 : decode cX7_beat 3 = .ok (.aload_n 0, 1) := by decide +kernel
theorem dX7_beat_4 : decode cX7_beat 4 = .ok (.getfield 7, 3) := by decide +kernel
theorem dX7_beat_7 : decode cX7_beat 7 = .ok (.iconst 1, 1) := by decide +kernel
theorem dX7_beat_8 : decode cX7_beat 8 = .ok (.iaload, 1) := by decide +kernel
theorem dX7_beat_9 : decode cX7_beat 9 = .ok (.iconst 1, 1) := by decide +kernel
theorem dX7_beat_10 : decode cX7_beat 10 = .ok (.isub, 1) := by decide +kernel
theorem dX7_beat_11 : decode cX7_beat 11 = .ok (.i2l, 1) := by decide +kernel
theorem dX7_beat_12 : decode cX7_beat 12 = .ok (.invokestatic 38, 3) := by decide +kernel
theorem dX7_beat_15 : decode cX7_beat 15 = .ok (.ifCond .eq 11, 3) := by decide +kernel
theorem dX7_beat_18 : decode cX7_beat 18 = .ok (.aload_n 0, 1) := by decide +kernel
theorem dX7_beat_19 : decode cX7_beat 19 = .ok (.iload_n 2, 1) := by decide +kernel
theorem dX7_beat_20 : decode cX7_beat 20 = .ok (.invokevirtual 158, 3) := by decide +kernel
theorem dX7_beat_23 : decode cX7_beat 23 = .ok (.ifCond .ne 6, 3) := by decide +kernel
theorem dX7_beat_26 : decode cX7_beat 26 = .ok (.ldc 55, 2) := by decide +kernel
theorem dX7_beat_28 : decode cX7_beat 28 = .ok (.ireturn, 1) := by decide +kernel
theorem dX7_beat_29 : decode cX7_beat 29 = .ok (.aload_n 0, 1) := by decide +kernel
theorem dX7_beat_30 : decode cX7_beat 30 = .ok (.getfield 7, 3) := by decide +kernel
theorem dX7_beat_33 : decode cX7_beat 33 = .ok (.bipush 30, 2) := by decide +kernel
theorem dX7_beat_35 : decode cX7_beat 35 = .ok (.iload_n 1, 1) := by decide +kernel
theorem dX7_beat_36 : decode cX7_beat 36 = .ok (.iadd, 1) := by decide +kernel
theorem dX7_beat_37 : decode cX7_beat 37 = .ok (.iaload, 1) := by decide +kernel
theorem dX7_beat_38 : decode cX7_beat 38 = .ok (.istore_n 3, 1) := by decide +kernel
theorem dX7_beat_39 : decode cX7_beat 39 = .ok (.iload_n 3, 1) := by decide +kernel
theorem dX7_beat_40 : decode cX7_beat 40 = .ok (.iload_n 2, 1) := by decide +kernel
theorem dX7_beat_41 : decode cX7_beat 41 = .ok (.if_icmp .ne 6, 3) := by decide +kernel
theorem dX7_beat_44 : decode cX7_beat 44 = .ok (.ldc 145, 2) := by decide +kernel
theorem dX7_beat_46 : decode cX7_beat 46 = .ok (.ireturn, 1) := by decide +kernel
theorem dX7_beat_47 : decode cX7_beat 47 = .ok (.aload_n 0, 1) := by decide +kernel
theorem dX7_beat_48 : decode cX7_beat 48 = .ok (.invokevirtual 148, 3) := by decide +kernel
theorem dX7_beat_51 : decode cX7_beat 51 = .ok (.aload_n 0, 1) := by decide +kernel
theorem dX7_beat_52 : decode cX7_beat 52 = .ok (.getfield 7, 3) := by decide +kernel
theorem dX7_beat_55 : decode cX7_beat 55 = .ok (.bipush 30, 2) := by decide +kernel
theorem dX7_beat_57 : decode cX7_beat 57 = .ok (.iload_n 1, 1) := by decide +kernel
theorem dX7_beat_58 : decode cX7_beat 58 = .ok (.iadd, 1) := by decide +kernel
theorem dX7_beat_59 : decode cX7_beat 59 = .ok (.iload_n 2, 1) := by decide +kernel
theorem dX7_beat_60 : decode cX7_beat 60 = .ok (.iastore, 1) := by decide +kernel
theorem dX7_beat_61 : decode cX7_beat 61 = .ok (.iload_n 3, 1) := by decide +kernel
theorem dX7_beat_62 : decode cX7_beat 62 = .ok (.ireturn, 1) := by decide +kernel
theorem dX7_reach_0 : decode cX7_reach 0 = .ok (.aload_n 0, 1) := by decide +kernel
theorem dX7_reach_1 : decode cX7_reach 1 = .ok (.invokevirtual 142, 3) := by decide +kernel
theorem dX7_reach_4 : decode cX7_reach 4 = .ok (.ifCond .ne 6, 3) := by decide +kernel
theorem dX7_reach_7 : decode cX7_reach 7 = .ok (.ldc 145, 2) := by decide +kernel
theorem dX7_reach_9 : decode cX7_reach 9 = .ok (.ireturn, 1) := by decide +kernel
theorem dX7_reach_10 : decode cX7_reach 10 = .ok (.iload_n 1, 1) := by decide +kernel
theorem dX7_reach_11 : decode cX7_reach 11 = .ok (.i2l, 1) := by decide +kernel
theorem dX7_reach_12 : decode cX7_reach 12 = .ok (.lconst 0, 1) := by decide +kernel
theorem dX7_reach_13 : decode cX7_reach 13 = .ok (.ldc2_w 161, 3) := by decide +kernel
theorem dX7_reach_16 : decode cX7_reach 16 = .ok (.invokestatic 38, 3) := by decide +kernel
theorem dX7_reach_19 : decode cX7_reach 19 = .ok (.ifCond .ne 6, 3) := by decide +kernel
theorem dX7_reach_22 : decode cX7_reach 22 = .ok (.ldc 55, 2) := by decide +kernel
theorem dX7_reach_24 : decode cX7_reach 24 = .ok (.ireturn, 1) := by decide +kernel
theorem dX7_reach_25 : decode cX7_reach 25 = .ok (.aload_n 0, 1) := by decide +kernel
theorem dX7_reach_26 : decode cX7_reach 26 = .ok (.invokevirtual 148, 3) := by decide +kernel
theorem dX7_reach_29 : decode cX7_reach 29 = .ok (.aload_n 0, 1) := by decide +kernel
theorem dX7_reach_30 : decode cX7_reach 30 = .ok (.getfield 7, 3) := by decide +kernel
theorem dX7_reach_33 : decode cX7_reach 33 = .ok (.iconst 2, 1) := by decide +kernel
theorem dX7_reach_34 : decode cX7_reach 34 = .ok (.iaload, 1) := by decide +kernel
theorem dX7_reach_35 : decode cX7_reach 35 = .ok (.istore_n 2, 1) := by decide +kernel
theorem dX7_reach_36 : decode cX7_reach 36 = .ok (.aload_n 0, 1) := by decide +kernel
theorem dX7_reach_37 : decode cX7_reach 37 = .ok (.getfield 7, 3) := by decide +kernel
theorem dX7_reach_40 : decode cX7_reach 40 = .ok (.iconst 2, 1) := by decide +kernel
theorem dX7_reach_41 : decode cX7_reach 41 = .ok (.iload_n 1, 1) := by decide +kernel
theorem dX7_reach_42 : decode cX7_reach 42 = .ok (.iastore, 1) := by decide +kernel
theorem dX7_reach_43 : decode cX7_reach 43 = .ok (.iload_n 2, 1) := by decide +kernel
theorem dX7_reach_44 : decode cX7_reach 44 = .ok (.ireturn, 1) := by decide +kernel
theorem dX7_lull_0 : decode cX7_lull 0 = .ok (.aload_n 0, 1) := by decide +kernel
theorem dX7_lull_1 : decode cX7_lull 1 = .ok (.iload_n 1, 1) := by decide +kernel
theorem dX7_lull_2 : decode cX7_lull 2 = .ok (.invokevirtual 158, 3) := by decide +kernel
theorem dX7_lull_5 : decode cX7_lull 5 = .ok (.ifCond .eq 15, 3) := by decide +kernel
theorem dX7_lull_8 : decode cX7_lull 8 = .ok (.iload_n 2, 1) := by decide +kernel
theorem dX7_lull_9 : decode cX7_lull 9 = .ok (.i2l, 1) := by decide +kernel
theorem dX7_lull_10 : decode cX7_lull 10 = .ok (.lconst 1, 1) := by decide +kernel
theorem dX7_lull_11 : decode cX7_lull 11 = .ok (.ldc2_w 163, 3) := by decide +kernel
theorem dX7_lull_14 : decode cX7_lull 14 = .ok (.invokestatic 38, 3) := by decide +kernel
theorem dX7_lull_17 : decode cX7_lull 17 = .ok (.ifCond .ne 6, 3) := by decide +kernel
theorem dX7_lull_20 : decode cX7_lull 20 = .ok (.ldc 55, 2) := by decide +kernel
theorem dX7_lull_22 : decode cX7_lull 22 = .ok (.ireturn, 1) := by decide +kernel
theorem dX7_lull_23 : decode cX7_lull 23 = .ok (.aload_n 0, 1) := by decide +kernel
theorem dX7_lull_24 : decode cX7_lull 24 = .ok (.invokevirtual 148, 3) := by decide +kernel
theorem dX7_lull_27 : decode cX7_lull 27 = .ok (.aload_n 0, 1) := by decide +kernel
theorem dX7_lull_28 : decode cX7_lull 28 = .ok (.getfield 7, 3) := by decide +kernel
theorem dX7_lull_31 : decode cX7_lull 31 = .ok (.bipush 14, 2) := by decide +kernel
theorem dX7_lull_33 : decode cX7_lull 33 = .ok (.iload_n 1, 1) := by decide +kernel
theorem dX7_lull_34 : decode cX7_lull 34 = .ok (.iadd, 1) := by decide +kernel
theorem dX7_lull_35 : decode cX7_lull 35 = .ok (.aload_n 0, 1) := by decide +kernel
theorem dX7_lull_36 : decode cX7_lull 36 = .ok (.getfield 7, 3) := by decide +kernel
theorem dX7_lull_39 : decode cX7_lull 39 = .ok (.bipush 14, 2) := by decide +kernel
theorem dX7_lull_41 : decode cX7_lull 41 = .ok (.iload_n 1, 1) := by decide +kernel
theorem dX7_lull_42 : decode cX7_lull 42 = .ok (.iadd, 1) := by decide +kernel
theorem dX7_lull_43 : decode cX7_lull 43 = .ok (.iaload, 1) := by decide +kernel
theorem dX7_lull_44 : decode cX7_lull 44 = .ok (.iload_n 2, 1) := by decide +kernel
theorem dX7_lull_45 : decode cX7_lull 45 = .ok (.iadd, 1) := by decide +kernel
theorem dX7_lull_46 : decode cX7_lull 46 = .ok (.invokestatic 128, 3) := by decide +kernel
theorem dX7_lull_49 : decode cX7_lull 49 = .ok (.iastore, 1) := by decide +kernel
theorem dX7_lull_50 : decode cX7_lull 50 = .ok (.aload_n 0, 1) := by decide +kernel
theorem dX7_lull_51 : decode cX7_lull 51 = .ok (.getfield 7, 3) := by decide +kernel
theorem dX7_lull_54 : decode cX7_lull 54 = .ok (.bipush 14, 2) := by decide +kernel
theorem dX7_lull_56 : decode cX7_lull 56 = .ok (.iload_n 1, 1) := by decide +kernel
theorem dX7_lull_57 : decode cX7_lull 57 = .ok (.iadd, 1) := by decide +kernel
theorem dX7_lull_58 : decode cX7_lull 58 = .ok (.iaload, 1) := by decide +kernel
theorem dX7_lull_59 : decode cX7_lull 59 = .ok (.ireturn, 1) := by decide +kernel
theorem dX7_bring_0 : decode cX7_bring 0 = .ok (.aload_n 0, 1) := by decide +kernel
theorem dX7_bring_1 : decode cX7_bring 1 = .ok (.iload_n 1, 1) := by decide +kernel
theorem dX7_bring_2 : decode cX7_bring 2 = .ok (.invokevirtual 158, 3) := by decide +kernel
theorem dX7_bring_5 : decode cX7_bring 5 = .ok (.ifCond .eq 15, 3) := by decide +kernel
theorem dX7_bring_8 : decode cX7_bring 8 = .ok (.iload_n 2, 1) := by decide +kernel
theorem dX7_bring_9 : decode cX7_bring 9 = .ok (.i2l, 1) := by decide +kernel
theorem dX7_bring_10 : decode cX7_bring 10 = .ok (.lconst 1, 1) := by decide +kernel
theorem dX7_bring_11 : decode cX7_bring 11 = .ok (.ldc2_w 165, 3) := by decide +kernel
theorem dX7_bring_14 : decode cX7_bring 14 = .ok (.invokestatic 38, 3) := by decide +kernel
theorem dX7_bring_17 : decode cX7_bring 17 = .ok (.ifCond .ne 6, 3) := by decide +kernel
theorem dX7_bring_20 : decode cX7_bring 20 = .ok (.ldc 55, 2) := by decide +kernel
theorem dX7_bring_22 : decode cX7_bring 22 = .ok (.ireturn, 1) := by decide +kernel
theorem dX7_bring_23 : decode cX7_bring 23 = .ok (.aload_n 0, 1) := by decide +kernel
theorem dX7_bring_24 : decode cX7_bring 24 = .ok (.invokevirtual 148, 3) := by decide +kernel
theorem dX7_bring_27 : decode cX7_bring 27 = .ok (.aload_n 0, 1) := by decide +kernel
theorem dX7_bring_28 : decode cX7_bring 28 = .ok (.getfield 7, 3) := by decide +kernel
theorem dX7_bring_31 : decode cX7_bring 31 = .ok (.bipush 22, 2) := by decide +kernel
theorem dX7_bring_33 : decode cX7_bring 33 = .ok (.iload_n 1, 1) := by decide +kernel
theorem dX7_bring_34 : decode cX7_bring 34 = .ok (.iadd, 1) := by decide +kernel
theorem dX7_bring_35 : decode cX7_bring 35 = .ok (.aload_n 0, 1) := by decide +kernel
theorem dX7_bring_36 : decode cX7_bring 36 = .ok (.getfield 7, 3) := by decide +kernel
theorem dX7_bring_39 : decode cX7_bring 39 = .ok (.bipush 22, 2) := by decide +kernel
theorem dX7_bring_41 : decode cX7_bring 41 = .ok (.iload_n 1, 1) := by decide +kernel
theorem dX7_bring_42 : decode cX7_bring 42 = .ok (.iadd, 1) := by decide +kernel
theorem dX7_bring_43 : decode cX7_bring 43 = .ok (.iaload, 1) := by decide +kernel
theorem dX7_bring_44 : decode cX7_bring 44 = .ok (.iload_n 2, 1) := by decide +kernel
theorem dX7_bring_45 : decode cX7_bring 45 = .ok (.iadd, 1) := by decide +kernel
theorem dX7_bring_46 : decode cX7_bring 46 = .ok (.bipush 60, 2) := by decide +kernel
theorem dX7_bring_48 : decode cX7_bring 48 = .ok (.if_icmp .le 8, 3) := by decide +kernel
theorem dX7_bring_51 : decode cX7_bring 51 = .ok (.bipush 60, 2) := by decide +kernel
theorem dX7_bring_53 : decode cX7_bring 53 = .ok (.goto 14, 3) := by decide +kernel
theorem dX7_bring_56 : decode cX7_bring 56 = .ok (.aload_n 0, 1) := by decide +kernel
theorem dX7_bring_57 : decode cX7_bring 57 = .ok (.getfield 7, 3) := by decide +kernel
theorem dX7_bring_60 : decode cX7_bring 60 = .ok (.bipush 22, 2) := by decide +kernel
theorem dX7_bring_62 : decode cX7_bring 62 = .ok (.iload_n 1, 1) := by decide +kernel
theorem dX7_bring_63 : decode cX7_bring 63 = .ok (.iadd, 1) := by decide +kernel
theorem dX7_bring_64 : decode cX7_bring 64 = .ok (.iaload, 1) := by decide +kernel
theorem dX7_bring_65 : decode cX7_bring 65 = .ok (.iload_n 2, 1) := by decide +kernel
theorem dX7_bring_66 : decode cX7_bring 66 = .ok (.iadd, 1) := by decide +kernel
theorem dX7_bring_67 : decode cX7_bring 67 = .ok (.iastore, 1) := by decide +kernel
theorem dX7_bring_68 : decode cX7_bring 68 = .ok (.aload_n 0, 1) := by decide +kernel
theorem dX7_bring_69 : decode cX7_bring 69 = .ok (.getfield 7, 3) := by decide +kernel
theorem dX7_bring_72 : decode cX7_bring 72 = .ok (.bipush 22, 2) := by decide +kernel
theorem dX7_bring_74 : decode cX7_bring 74 = .ok (.iload_n 1, 1) := by decide +kernel
theorem dX7_bring_75 : decode cX7_bring 75 = .ok (.iadd, 1) := by decide +kernel
theorem dX7_bring_76 : decode cX7_bring 76 = .ok (.iaload, 1) := by decide +kernel
theorem dX7_bring_77 : decode cX7_bring 77 = .ok (.ireturn, 1) := by decide +kernel
theorem dX7_undo_0 : decode cX7_undo 0 = .ok (.aload_n 0, 1) := by decide +kernel
theorem dX7_undo_1 : decode cX7_undo 1 = .ok (.getfield 121, 3) := by decide +kernel
theorem dX7_undo_4 : decode cX7_undo 4 = .ok (.ifCond .ne 6, 3) := by decide +kernel
theorem dX7_undo_7 : decode cX7_undo 7 = .ok (.ldc 145, 2) := by decide +kernel
theorem dX7_undo_9 : decode cX7_undo 9 = .ok (.ireturn, 1) := by decide +kernel
theorem dX7_undo_10 : decode cX7_undo 10 = .ok (.aload_n 0, 1) := by decide +kernel
theorem dX7_undo_11 : decode cX7_undo 11 = .ok (.dup, 1) := by decide +kernel
theorem dX7_undo_12 : decode cX7_undo 12 = .ok (.getfield 121, 3) := by decide +kernel
theorem dX7_undo_15 : decode cX7_undo 15 = .ok (.iconst 1, 1) := by decide +kernel
theorem dX7_undo_16 : decode cX7_undo 16 = .ok (.isub, 1) := by decide +kernel
theorem dX7_undo_17 : decode cX7_undo 17 = .ok (.putfield 121, 3) := by decide +kernel
theorem dX7_undo_20 : decode cX7_undo 20 = .ok (.aload_n 0, 1) := by decide +kernel
theorem dX7_undo_21 : decode cX7_undo 21 = .ok (.sipush 190, 3) := by decide +kernel
theorem dX7_undo_24 : decode cX7_undo 24 = .ok (.bipush 38, 2) := by decide +kernel
theorem dX7_undo_26 : decode cX7_undo 26 = .ok (.aload_n 0, 1) := by decide +kernel
theorem dX7_undo_27 : decode cX7_undo 27 = .ok (.getfield 121, 3) := by decide +kernel
theorem dX7_undo_30 : decode cX7_undo 30 = .ok (.imul, 1) := by decide +kernel
theorem dX7_undo_31 : decode cX7_undo 31 = .ok (.iadd, 1) := by decide +kernel
theorem dX7_undo_32 : decode cX7_undo 32 = .ok (.iconst 0, 1) := by decide +kernel
theorem dX7_undo_33 : decode cX7_undo 33 = .ok (.invokevirtual 117, 3) := by decide +kernel
theorem dX7_undo_36 : decode cX7_undo 36 = .ok (.aload_n 0, 1) := by decide +kernel
theorem dX7_undo_37 : decode cX7_undo 37 = .ok (.getfield 121, 3) := by decide +kernel
theorem dX7_undo_40 : decode cX7_undo 40 = .ok (.ireturn, 1) := by decide +kernel
theorem dX7_street_0 : decode cX7_street 0 = .ok (.aload_n 0, 1) := by decide +kernel
theorem dX7_street_1 : decode cX7_street 1 = .ok (.iload_n 1, 1) := by decide +kernel
theorem dX7_street_2 : decode cX7_street 2 = .ok (.invokevirtual 158, 3) := by decide +kernel
theorem dX7_street_5 : decode cX7_street 5 = .ok (.ifCond .ne 6, 3) := by decide +kernel
theorem dX7_street_8 : decode cX7_street 8 = .ok (.ldc 55, 2) := by decide +kernel
theorem dX7_street_10 : decode cX7_street 10 = .ok (.ireturn, 1) := by decide +kernel
theorem dX7_street_11 : decode cX7_street 11 = .ok (.iload_n 2, 1) := by decide +kernel
theorem dX7_street_12 : decode cX7_street 12 = .ok (.tableswitch 112 0 4 #[36, 46, 56, 71, 105], 36) := by decide +kernel
theorem dX7_street_48 : decode cX7_street 48 = .ok (.aload_n 0, 1) := by decide +kernel
theorem dX7_street_49 : decode cX7_street 49 = .ok (.getfield 7, 3) := by decide +kernel
theorem dX7_street_52 : decode cX7_street 52 = .ok (.bipush 14, 2) := by decide +kernel
theorem dX7_street_54 : decode cX7_street 54 = .ok (.iload_n 1, 1) := by decide +kernel
theorem dX7_street_55 : decode cX7_street 55 = .ok (.iadd, 1) := by decide +kernel
theorem dX7_street_56 : decode cX7_street 56 = .ok (.iaload, 1) := by decide +kernel
theorem dX7_street_57 : decode cX7_street 57 = .ok (.ireturn, 1) := by decide +kernel
theorem dX7_street_58 : decode cX7_street 58 = .ok (.aload_n 0, 1) := by decide +kernel
theorem dX7_street_59 : decode cX7_street 59 = .ok (.getfield 7, 3) := by decide +kernel
theorem dX7_street_62 : decode cX7_street 62 = .ok (.bipush 22, 2) := by decide +kernel
theorem dX7_street_64 : decode cX7_street 64 = .ok (.iload_n 1, 1) := by decide +kernel
theorem dX7_street_65 : decode cX7_street 65 = .ok (.iadd, 1) := by decide +kernel
theorem dX7_street_66 : decode cX7_street 66 = .ok (.iaload, 1) := by decide +kernel
theorem dX7_street_67 : decode cX7_street 67 = .ok (.ireturn, 1) := by decide +kernel
theorem dX7_street_68 : decode cX7_street 68 = .ok (.aload_n 0, 1) := by decide +kernel
theorem dX7_street_69 : decode cX7_street 69 = .ok (.iconst 0, 1) := by decide +kernel
theorem dX7_street_70 : decode cX7_street 70 = .ok (.iload_n 1, 1) := by decide +kernel
theorem dX7_street_71 : decode cX7_street 71 = .ok (.invokevirtual 131, 3) := by decide +kernel
theorem dX7_street_74 : decode cX7_street 74 = .ok (.ifCond .eq 7, 3) := by decide +kernel
theorem dX7_street_77 : decode cX7_street 77 = .ok (.iconst 1, 1) := by decide +kernel
theorem dX7_street_78 : decode cX7_street 78 = .ok (.goto 4, 3) := by decide +kernel
theorem dX7_street_81 : decode cX7_street 81 = .ok (.iconst 0, 1) := by decide +kernel
theorem dX7_street_82 : decode cX7_street 82 = .ok (.ireturn, 1) := by decide +kernel
theorem dX7_street_83 : decode cX7_street 83 = .ok (.aload_n 0, 1) := by decide +kernel
theorem dX7_street_84 : decode cX7_street 84 = .ok (.getfield 7, 3) := by decide +kernel
theorem dX7_street_87 : decode cX7_street 87 = .ok (.bipush 6, 2) := by decide +kernel
theorem dX7_street_89 : decode cX7_street 89 = .ok (.iload_n 1, 1) := by decide +kernel
theorem dX7_street_90 : decode cX7_street 90 = .ok (.iadd, 1) := by decide +kernel
theorem dX7_street_91 : decode cX7_street 91 = .ok (.iaload, 1) := by decide +kernel
theorem dX7_street_92 : decode cX7_street 92 = .ok (.aload_n 0, 1) := by decide +kernel
theorem dX7_street_93 : decode cX7_street 93 = .ok (.getfield 7, 3) := by decide +kernel
theorem dX7_street_96 : decode cX7_street 96 = .ok (.bipush 14, 2) := by decide +kernel
theorem dX7_street_98 : decode cX7_street 98 = .ok (.iload_n 1, 1) := by decide +kernel
theorem dX7_street_99 : decode cX7_street 99 = .ok (.iadd, 1) := by decide +kernel
theorem dX7_street_100 : decode cX7_street 100 = .ok (.iaload, 1) := by decide +kernel
theorem dX7_street_101 : decode cX7_street 101 = .ok (.aload_n 0, 1) := by decide +kernel
theorem dX7_street_102 : decode cX7_street 102 = .ok (.iconst 0, 1) := by decide +kernel
theorem dX7_street_103 : decode cX7_street 103 = .ok (.iload_n 1, 1) := by decide +kernel
theorem dX7_street_104 : decode cX7_street 104 = .ok (.invokevirtual 131, 3) := by decide +kernel
theorem dX7_street_107 : decode cX7_street 107 = .ok (.aload_n 0, 1) := by decide +kernel
theorem dX7_street_108 : decode cX7_street 108 = .ok (.getfield 7, 3) := by decide +kernel
theorem dX7_street_111 : decode cX7_street 111 = .ok (.iconst 4, 1) := by decide +kernel
theorem dX7_street_112 : decode cX7_street 112 = .ok (.iaload, 1) := by decide +kernel
theorem dX7_street_113 : decode cX7_street 113 = .ok (.invokestatic 137, 3) := by decide +kernel
theorem dX7_street_116 : decode cX7_street 116 = .ok (.ireturn, 1) := by decide +kernel
theorem dX7_street_117 : decode cX7_street 117 = .ok (.aload_n 0, 1) := by decide +kernel
theorem dX7_street_118 : decode cX7_street 118 = .ok (.iconst 0, 1) := by decide +kernel
theorem dX7_street_119 : decode cX7_street 119 = .ok (.iload_n 1, 1) := by decide +kernel
theorem dX7_street_120 : decode cX7_street 120 = .ok (.invokevirtual 134, 3) := by decide +kernel
theorem dX7_street_123 : decode cX7_street 123 = .ok (.ireturn, 1) := by decide +kernel
theorem dX7_street_124 : decode cX7_street 124 = .ok (.ldc 55, 2) := by decide +kernel
theorem dX7_street_126 : decode cX7_street 126 = .ok (.ireturn, 1) := by decide +kernel
theorem dX7_round_0 : decode cX7_round 0 = .ok (.iload_n 1, 1) := by decide +kernel
theorem dX7_round_1 : decode cX7_round 1 = .ok (.i2l, 1) := by decide +kernel
theorem dX7_round_2 : decode cX7_round 2 = .ok (.lconst 0, 1) := by decide +kernel
theorem dX7_round_3 : decode cX7_round 3 = .ok (.aload_n 0, 1) := by decide +kernel
theorem dX7_round_4 : decode cX7_round 4 = .ok (.getfield 7, 3) := by decide +kernel
theorem dX7_round_7 : decode cX7_round 7 = .ok (.iconst 1, 1) := by decide +kernel
theorem dX7_round_8 : decode cX7_round 8 = .ok (.iaload, 1) := by decide +kernel
theorem dX7_round_9 : decode cX7_round 9 = .ok (.iconst 1, 1) := by decide +kernel
theorem dX7_round_10 : decode cX7_round 10 = .ok (.isub, 1) := by decide +kernel
theorem dX7_round_11 : decode cX7_round 11 = .ok (.i2l, 1) := by decide +kernel
theorem dX7_round_12 : decode cX7_round 12 = .ok (.invokestatic 38, 3) := by decide +kernel
theorem dX7_round_15 : decode cX7_round 15 = .ok (.ifCond .eq 15, 3) := by decide +kernel
theorem dX7_round_18 : decode cX7_round 18 = .ok (.aload_n 0, 1) := by decide +kernel
theorem dX7_round_19 : decode cX7_round 19 = .ok (.getfield 7, 3) := by decide +kernel
theorem dX7_round_22 : decode cX7_round 22 = .ok (.bipush 30, 2) := by decide +kernel
theorem dX7_round_24 : decode cX7_round 24 = .ok (.iload_n 1, 1) := by decide +kernel
theorem dX7_round_25 : decode cX7_round 25 = .ok (.iadd, 1) := by decide +kernel
theorem dX7_round_26 : decode cX7_round 26 = .ok (.iaload, 1) := by decide +kernel
theorem dX7_round_27 : decode cX7_round 27 = .ok (.goto 5, 3) := by decide +kernel
theorem dX7_round_30 : decode cX7_round 30 = .ok (.ldc 55, 2) := by decide +kernel
theorem dX7_round_32 : decode cX7_round 32 = .ok (.ireturn, 1) := by decide +kernel
theorem dX7_tries_0 : decode cX7_tries 0 = .ok (.aload_n 0, 1) := by decide +kernel
theorem dX7_tries_1 : decode cX7_tries 1 = .ok (.iconst 0, 1) := by decide +kernel
theorem dX7_tries_2 : decode cX7_tries 2 = .ok (.bipush 38, 2) := by decide +kernel
theorem dX7_tries_4 : decode cX7_tries 4 = .ok (.invokevirtual 117, 3) := by decide +kernel
theorem dX7_tries_7 : decode cX7_tries 7 = .ok (.return_, 1) := by decide +kernel
theorem dX7_goesOn_0 : decode cX7_goesOn 0 = .ok (.iconst 0, 1) := by decide +kernel
theorem dX7_goesOn_1 : decode cX7_goesOn 1 = .ok (.istore_n 2, 1) := by decide +kernel
theorem dX7_goesOn_2 : decode cX7_goesOn 2 = .ok (.iload_n 2, 1) := by decide +kernel
theorem dX7_goesOn_3 : decode cX7_goesOn 3 = .ok (.iload_n 1, 1) := by decide +kernel
theorem dX7_goesOn_4 : decode cX7_goesOn 4 = .ok (.if_icmp .ge 15, 3) := by decide +kernel
theorem dX7_goesOn_7 : decode cX7_goesOn 7 = .ok (.aload_n 0, 1) := by decide +kernel
theorem dX7_goesOn_8 : decode cX7_goesOn 8 = .ok (.bipush 38, 2) := by decide +kernel
theorem dX7_goesOn_10 : decode cX7_goesOn 10 = .ok (.invokevirtual 151, 3) := by decide +kernel
theorem dX7_goesOn_13 : decode cX7_goesOn 13 = .ok (.iinc 2 1, 3) := by decide +kernel
theorem dX7_goesOn_16 : decode cX7_goesOn 16 = .ok (.goto (-14), 3) := by decide +kernel
theorem dX7_goesOn_19 : decode cX7_goesOn 19 = .ok (.return_, 1) := by decide +kernel
theorem dX7_ahead_0 : decode cX7_ahead 0 = .ok (.aload_n 0, 1) := by decide +kernel
theorem dX7_ahead_1 : decode cX7_ahead 1 = .ok (.iload_n 1, 1) := by decide +kernel
theorem dX7_ahead_2 : decode cX7_ahead 2 = .ok (.invokevirtual 158, 3) := by decide +kernel
theorem dX7_ahead_5 : decode cX7_ahead 5 = .ok (.ifCond .eq 25, 3) := by decide +kernel
theorem dX7_ahead_8 : decode cX7_ahead 8 = .ok (.iload_n 2, 1) := by decide +kernel
theorem dX7_ahead_9 : decode cX7_ahead 9 = .ok (.i2l, 1) := by decide +kernel
theorem dX7_ahead_10 : decode cX7_ahead 10 = .ok (.lconst 0, 1) := by decide +kernel
theorem dX7_ahead_11 : decode cX7_ahead 11 = .ok (.ldc2_w 165, 3) := by decide +kernel
theorem dX7_ahead_14 : decode cX7_ahead 14 = .ok (.invokestatic 38, 3) := by decide +kernel
theorem dX7_ahead_17 : decode cX7_ahead 17 = .ok (.ifCond .eq 13, 3) := by decide +kernel
theorem dX7_ahead_20 : decode cX7_ahead 20 = .ok (.iload_n 3, 1) := by decide +kernel
theorem dX7_ahead_21 : decode cX7_ahead 21 = .ok (.i2l, 1) := by decide +kernel
theorem dX7_ahead_22 : decode cX7_ahead 22 = .ok (.lconst 0, 1) := by decide +kernel
theorem dX7_ahead_23 : decode cX7_ahead 23 = .ok (.lconst 1, 1) := by decide +kernel
theorem dX7_ahead_24 : decode cX7_ahead 24 = .ok (.invokestatic 38, 3) := by decide +kernel
theorem dX7_ahead_27 : decode cX7_ahead 27 = .ok (.ifCond .ne 6, 3) := by decide +kernel
theorem dX7_ahead_30 : decode cX7_ahead 30 = .ok (.ldc 55, 2) := by decide +kernel
theorem dX7_ahead_32 : decode cX7_ahead 32 = .ok (.ireturn, 1) := by decide +kernel
theorem dX7_ahead_33 : decode cX7_ahead 33 = .ok (.aload_n 0, 1) := by decide +kernel
theorem dX7_ahead_34 : decode cX7_ahead 34 = .ok (.invokevirtual 167, 3) := by decide +kernel
theorem dX7_ahead_37 : decode cX7_ahead 37 = .ok (.aload_n 0, 1) := by decide +kernel
theorem dX7_ahead_38 : decode cX7_ahead 38 = .ok (.iload_n 2, 1) := by decide +kernel
theorem dX7_ahead_39 : decode cX7_ahead 39 = .ok (.invokevirtual 170, 3) := by decide +kernel
theorem dX7_ahead_42 : decode cX7_ahead 42 = .ok (.aload_n 0, 1) := by decide +kernel
theorem dX7_ahead_43 : decode cX7_ahead 43 = .ok (.getfield 7, 3) := by decide +kernel
theorem dX7_ahead_46 : decode cX7_ahead 46 = .ok (.bipush 38, 2) := by decide +kernel
theorem dX7_ahead_48 : decode cX7_ahead 48 = .ok (.iload_n 3, 1) := by decide +kernel
theorem dX7_ahead_49 : decode cX7_ahead 49 = .ok (.ifCond .ne 8, 3) := by decide +kernel
theorem dX7_ahead_52 : decode cX7_ahead 52 = .ok (.bipush 14, 2) := by decide +kernel
theorem dX7_ahead_54 : decode cX7_ahead 54 = .ok (.goto 5, 3) := by decide +kernel
theorem dX7_ahead_57 : decode cX7_ahead 57 = .ok (.bipush 22, 2) := by decide +kernel
theorem dX7_ahead_59 : decode cX7_ahead 59 = .ok (.iadd, 1) := by decide +kernel
theorem dX7_ahead_60 : decode cX7_ahead 60 = .ok (.iload_n 1, 1) := by decide +kernel
theorem dX7_ahead_61 : decode cX7_ahead 61 = .ok (.iadd, 1) := by decide +kernel
theorem dX7_ahead_62 : decode cX7_ahead 62 = .ok (.iaload, 1) := by decide +kernel
theorem dX7_ahead_63 : decode cX7_ahead 63 = .ok (.ireturn, 1) := by decide +kernel
theorem dX7_later_0 : decode cX7_later 0 = .ok (.aload_n 0, 1) := by decide +kernel
theorem dX7_later_1 : decode cX7_later 1 = .ok (.invokevirtual 142, 3) := by decide +kernel
theorem dX7_later_4 : decode cX7_later 4 = .ok (.ifCond .ne 6, 3) := by decide +kernel
theorem dX7_later_7 : decode cX7_later 7 = .ok (.ldc 145, 2) := by decide +kernel
theorem dX7_later_9 : decode cX7_later 9 = .ok (.ireturn, 1) := by decide +kernel
theorem dX7_later_10 : decode cX7_later 10 = .ok (.iload_n 1, 1) := by decide +kernel
theorem dX7_later_11 : decode cX7_later 11 = .ok (.i2l, 1) := by decide +kernel
theorem dX7_later_12 : decode cX7_later 12 = .ok (.lconst 0, 1) := by decide +kernel
theorem dX7_later_13 : decode cX7_later 13 = .ok (.ldc2_w 165, 3) := by decide +kernel
theorem dX7_later_16 : decode cX7_later 16 = .ok (.invokestatic 38, 3) := by decide +kernel
theorem dX7_later_19 : decode cX7_later 19 = .ok (.ifCond .eq 13, 3) := by decide +kernel
theorem dX7_later_22 : decode cX7_later 22 = .ok (.iload_n 2, 1) := by decide +kernel
theorem dX7_later_23 : decode cX7_later 23 = .ok (.i2l, 1) := by decide +kernel
theorem dX7_later_24 : decode cX7_later 24 = .ok (.lconst 0, 1) := by decide +kernel
theorem dX7_later_25 : decode cX7_later 25 = .ok (.lconst 1, 1) := by decide +kernel
theorem dX7_later_26 : decode cX7_later 26 = .ok (.invokestatic 38, 3) := by decide +kernel
theorem dX7_later_29 : decode cX7_later 29 = .ok (.ifCond .ne 6, 3) := by decide +kernel
theorem dX7_later_32 : decode cX7_later 32 = .ok (.ldc 55, 2) := by decide +kernel
theorem dX7_later_34 : decode cX7_later 34 = .ok (.ireturn, 1) := by decide +kernel
theorem dX7_later_35 : decode cX7_later 35 = .ok (.aload_n 0, 1) := by decide +kernel
theorem dX7_later_36 : decode cX7_later 36 = .ok (.invokevirtual 167, 3) := by decide +kernel
theorem dX7_later_39 : decode cX7_later 39 = .ok (.aload_n 0, 1) := by decide +kernel
theorem dX7_later_40 : decode cX7_later 40 = .ok (.iload_n 1, 1) := by decide +kernel
theorem dX7_later_41 : decode cX7_later 41 = .ok (.invokevirtual 170, 3) := by decide +kernel
theorem dX7_later_44 : decode cX7_later 44 = .ok (.iload_n 2, 1) := by decide +kernel
theorem dX7_later_45 : decode cX7_later 45 = .ok (.ifCond .ne 12, 3) := by decide +kernel
theorem dX7_later_48 : decode cX7_later 48 = .ok (.aload_n 0, 1) := by decide +kernel
theorem dX7_later_49 : decode cX7_later 49 = .ok (.bipush 38, 2) := by decide +kernel
theorem dX7_later_51 : decode cX7_later 51 = .ok (.invokevirtual 155, 3) := by decide +kernel
theorem dX7_later_54 : decode cX7_later 54 = .ok (.goto 10, 3) := by decide +kernel
theorem dX7_later_57 : decode cX7_later 57 = .ok (.aload_n 0, 1) := by decide +kernel
theorem dX7_later_58 : decode cX7_later 58 = .ok (.getfield 7, 3) := by decide +kernel
theorem dX7_later_61 : decode cX7_later 61 = .ok (.bipush 43, 2) := by decide +kernel
theorem dX7_later_63 : decode cX7_later 63 = .ok (.iaload, 1) := by decide +kernel
theorem dX7_later_64 : decode cX7_later 64 = .ok (.ireturn, 1) := by decide +kernel
theorem dX7_allAwake_0 : decode cX7_allAwake 0 = .ok (.aload_n 0, 1) := by decide +kernel
theorem dX7_allAwake_1 : decode cX7_allAwake 1 = .ok (.invokevirtual 167, 3) := by decide +kernel
theorem dX7_allAwake_4 : decode cX7_allAwake 4 = .ok (.iconst 0, 1) := by decide +kernel
theorem dX7_allAwake_5 : decode cX7_allAwake 5 = .ok (.istore_n 2, 1) := by decide +kernel
theorem dX7_allAwake_6 : decode cX7_allAwake 6 = .ok (.iload_n 2, 1) := by decide +kernel
theorem dX7_allAwake_7 : decode cX7_allAwake 7 = .ok (.bipush 60, 2) := by decide +kernel
theorem dX7_allAwake_9 : decode cX7_allAwake 9 = .ok (.if_icmp .gt 29, 3) := by decide +kernel
theorem dX7_allAwake_12 : decode cX7_allAwake 12 = .ok (.aload_n 0, 1) := by decide +kernel
theorem dX7_allAwake_13 : decode cX7_allAwake 13 = .ok (.bipush 38, 2) := by decide +kernel
theorem dX7_allAwake_15 : decode cX7_allAwake 15 = .ok (.invokevirtual 155, 3) := by decide +kernel
theorem dX7_allAwake_18 : decode cX7_allAwake 18 = .ok (.iload_n 1, 1) := by decide +kernel
theorem dX7_allAwake_19 : decode cX7_allAwake 19 = .ok (.iand, 1) := by decide +kernel
theorem dX7_allAwake_20 : decode cX7_allAwake 20 = .ok (.iload_n 1, 1) := by decide +kernel
theorem dX7_allAwake_21 : decode cX7_allAwake 21 = .ok (.if_icmp .ne 5, 3) := by decide +kernel
theorem dX7_allAwake_24 : decode cX7_allAwake 24 = .ok (.iload_n 2, 1) := by decide +kernel
theorem dX7_allAwake_25 : decode cX7_allAwake 25 = .ok (.ireturn, 1) := by decide +kernel
theorem dX7_allAwake_26 : decode cX7_allAwake 26 = .ok (.aload_n 0, 1) := by decide +kernel
theorem dX7_allAwake_27 : decode cX7_allAwake 27 = .ok (.bipush 38, 2) := by decide +kernel
theorem dX7_allAwake_29 : decode cX7_allAwake 29 = .ok (.invokevirtual 151, 3) := by decide +kernel
theorem dX7_allAwake_32 : decode cX7_allAwake 32 = .ok (.iinc 2 1, 3) := by decide +kernel
theorem dX7_allAwake_35 : decode cX7_allAwake 35 = .ok (.goto (-29), 3) := by decide +kernel
theorem dX7_allAwake_38 : decode cX7_allAwake 38 = .ok (.ldc 173, 2) := by decide +kernel
theorem dX7_allAwake_40 : decode cX7_allAwake 40 = .ok (.ireturn, 1) := by decide +kernel
theorem dX7_wakes_0 : decode cX7_wakes 0 = .ok (.aload_n 0, 1) := by decide +kernel
theorem dX7_wakes_1 : decode cX7_wakes 1 = .ok (.iload_n 1, 1) := by decide +kernel
theorem dX7_wakes_2 : decode cX7_wakes 2 = .ok (.invokevirtual 158, 3) := by decide +kernel
theorem dX7_wakes_5 : decode cX7_wakes 5 = .ok (.ifCond .eq 13, 3) := by decide +kernel
theorem dX7_wakes_8 : decode cX7_wakes 8 = .ok (.aload_n 0, 1) := by decide +kernel
theorem dX7_wakes_9 : decode cX7_wakes 9 = .ok (.iconst 1, 1) := by decide +kernel
theorem dX7_wakes_10 : decode cX7_wakes 10 = .ok (.iload_n 1, 1) := by decide +kernel
theorem dX7_wakes_11 : decode cX7_wakes 11 = .ok (.ishl, 1) := by decide +kernel
theorem dX7_wakes_12 : decode cX7_wakes 12 = .ok (.invokevirtual 174, 3) := by decide +kernel
theorem dX7_wakes_15 : decode cX7_wakes 15 = .ok (.goto 5, 3) := by decide +kernel
theorem dX7_wakes_18 : decode cX7_wakes 18 = .ok (.ldc 55, 2) := by decide +kernel
theorem dX7_wakes_20 : decode cX7_wakes 20 = .ok (.ireturn, 1) := by decide +kernel
theorem dX7_alarm_0 : decode cX7_alarm 0 = .ok (.aload_n 0, 1) := by decide +kernel
theorem dX7_alarm_1 : decode cX7_alarm 1 = .ok (.invokevirtual 142, 3) := by decide +kernel
theorem dX7_alarm_4 : decode cX7_alarm 4 = .ok (.ifCond .eq 20, 3) := by decide +kernel
theorem dX7_alarm_7 : decode cX7_alarm 7 = .ok (.aload_n 0, 1) := by decide +kernel
theorem dX7_alarm_8 : decode cX7_alarm 8 = .ok (.iconst 1, 1) := by decide +kernel
theorem dX7_alarm_9 : decode cX7_alarm 9 = .ok (.aload_n 0, 1) := by decide +kernel
theorem dX7_alarm_10 : decode cX7_alarm 10 = .ok (.getfield 7, 3) := by decide +kernel
theorem dX7_alarm_13 : decode cX7_alarm 13 = .ok (.iconst 0, 1) := by decide +kernel
theorem dX7_alarm_14 : decode cX7_alarm 14 = .ok (.iaload, 1) := by decide +kernel
theorem dX7_alarm_15 : decode cX7_alarm 15 = .ok (.ishl, 1) := by decide +kernel
theorem dX7_alarm_16 : decode cX7_alarm 16 = .ok (.iconst 1, 1) := by decide +kernel
theorem dX7_alarm_17 : decode cX7_alarm 17 = .ok (.isub, 1) := by decide +kernel
theorem dX7_alarm_18 : decode cX7_alarm 18 = .ok (.invokevirtual 174, 3) := by decide +kernel
theorem dX7_alarm_21 : decode cX7_alarm 21 = .ok (.goto 5, 3) := by decide +kernel
theorem dX7_alarm_24 : decode cX7_alarm 24 = .ok (.ldc 145, 2) := by decide +kernel
theorem dX7_alarm_26 : decode cX7_alarm 26 = .ok (.ireturn, 1) := by decide +kernel
theorem dX7_tune_0 : decode cX7_tune 0 = .ok (.aload_n 0, 1) := by decide +kernel
theorem dX7_tune_1 : decode cX7_tune 1 = .ok (.invokevirtual 142, 3) := by decide +kernel
theorem dX7_tune_4 : decode cX7_tune 4 = .ok (.ifCond .ne 6, 3) := by decide +kernel
theorem dX7_tune_7 : decode cX7_tune 7 = .ok (.ldc 145, 2) := by decide +kernel
theorem dX7_tune_9 : decode cX7_tune 9 = .ok (.ireturn, 1) := by decide +kernel
theorem dX7_tune_10 : decode cX7_tune 10 = .ok (.iload_n 1, 1) := by decide +kernel
theorem dX7_tune_11 : decode cX7_tune 11 = .ok (.i2l, 1) := by decide +kernel
theorem dX7_tune_12 : decode cX7_tune 12 = .ok (.lconst 1, 1) := by decide +kernel
theorem dX7_tune_13 : decode cX7_tune 13 = .ok (.ldc2_w 177, 3) := by decide +kernel
theorem dX7_tune_16 : decode cX7_tune 16 = .ok (.invokestatic 38, 3) := by decide +kernel
theorem dX7_tune_19 : decode cX7_tune 19 = .ok (.ifCond .eq 20, 3) := by decide +kernel
theorem dX7_tune_22 : decode cX7_tune 22 = .ok (.iload_n 2, 1) := by decide +kernel
theorem dX7_tune_23 : decode cX7_tune 23 = .ok (.i2l, 1) := by decide +kernel
theorem dX7_tune_24 : decode cX7_tune 24 = .ok (.lconst 1, 1) := by decide +kernel
theorem dX7_tune_25 : decode cX7_tune 25 = .ok (.ldc2_w 179, 3) := by decide +kernel
theorem dX7_tune_28 : decode cX7_tune 28 = .ok (.invokestatic 38, 3) := by decide +kernel
theorem dX7_tune_31 : decode cX7_tune 31 = .ok (.ifCond .eq 8, 3) := by decide +kernel
theorem dX7_tune_34 : decode cX7_tune 34 = .ok (.iload_n 3, 1) := by decide +kernel
theorem dX7_tune_35 : decode cX7_tune 35 = .ok (.iconst (-1), 1) := by decide +kernel
theorem dX7_tune_36 : decode cX7_tune 36 = .ok (.if_icmp .ge 6, 3) := by decide +kernel
theorem dX7_tune_39 : decode cX7_tune 39 = .ok (.ldc 55, 2) := by decide +kernel
theorem dX7_tune_41 : decode cX7_tune 41 = .ok (.ireturn, 1) := by decide +kernel
theorem dX7_tune_42 : decode cX7_tune 42 = .ok (.iconst 1, 1) := by decide +kernel
theorem dX7_tune_43 : decode cX7_tune 43 = .ok (.istore 4, 2) := by decide +kernel
theorem dX7_tune_45 : decode cX7_tune 45 = .ok (.iconst 0, 1) := by decide +kernel
theorem dX7_tune_46 : decode cX7_tune 46 = .ok (.istore 5, 2) := by decide +kernel
theorem dX7_tune_48 : decode cX7_tune 48 = .ok (.iload 5, 2) := by decide +kernel
theorem dX7_tune_50 : decode cX7_tune 50 = .ok (.iload_n 1, 1) := by decide +kernel
theorem dX7_tune_51 : decode cX7_tune 51 = .ok (.if_icmp .ge 20, 3) := by decide +kernel
theorem dX7_tune_54 : decode cX7_tune 54 = .ok (.iload 4, 2) := by decide +kernel
theorem dX7_tune_56 : decode cX7_tune 56 = .ok (.aload_n 0, 1) := by decide +kernel
theorem dX7_tune_57 : decode cX7_tune 57 = .ok (.getfield 7, 3) := by decide +kernel
theorem dX7_tune_60 : decode cX7_tune 60 = .ok (.iconst 0, 1) := by decide +kernel
theorem dX7_tune_61 : decode cX7_tune 61 = .ok (.iaload, 1) := by decide +kernel
theorem dX7_tune_62 : decode cX7_tune 62 = .ok (.imul, 1) := by decide +kernel
theorem dX7_tune_63 : decode cX7_tune 63 = .ok (.istore 4, 2) := by decide +kernel
theorem dX7_tune_65 : decode cX7_tune 65 = .ok (.iinc 5 1, 3) := by decide +kernel
theorem dX7_tune_68 : decode cX7_tune 68 = .ok (.goto (-20), 3) := by decide +kernel
theorem dX7_tune_71 : decode cX7_tune 71 = .ok (.ldc 181, 2) := by decide +kernel
theorem dX7_tune_73 : decode cX7_tune 73 = .ok (.istore 5, 2) := by decide +kernel
theorem dX7_tune_75 : decode cX7_tune 75 = .ok (.iconst (-1), 1) := by decide +kernel
theorem dX7_tune_76 : decode cX7_tune 76 = .ok (.istore 6, 2) := by decide +kernel
theorem dX7_tune_78 : decode cX7_tune 78 = .ok (.iconst 0, 1) := by decide +kernel
theorem dX7_tune_79 : decode cX7_tune 79 = .ok (.istore 7, 2) := by decide +kernel
theorem dX7_tune_81 : decode cX7_tune 81 = .ok (.iload 7, 2) := by decide +kernel
theorem dX7_tune_83 : decode cX7_tune 83 = .ok (.iload 4, 2) := by decide +kernel
theorem dX7_tune_85 : decode cX7_tune 85 = .ok (.if_icmp .ge 172, 3) := by decide +kernel
theorem dX7_tune_88 : decode cX7_tune 88 = .ok (.aload_n 0, 1) := by decide +kernel
theorem dX7_tune_89 : decode cX7_tune 89 = .ok (.invokevirtual 167, 3) := by decide +kernel
theorem dX7_tune_92 : decode cX7_tune 92 = .ok (.aload_n 0, 1) := by decide +kernel
theorem dX7_tune_93 : decode cX7_tune 93 = .ok (.getfield 7, 3) := by decide +kernel
theorem dX7_tune_96 : decode cX7_tune 96 = .ok (.bipush 43, 2) := by decide +kernel
theorem dX7_tune_98 : decode cX7_tune 98 = .ok (.iconst 0, 1) := by decide +kernel
theorem dX7_tune_99 : decode cX7_tune 99 = .ok (.iastore, 1) := by decide +kernel
theorem dX7_tune_100 : decode cX7_tune 100 = .ok (.aload_n 0, 1) := by decide +kernel
theorem dX7_tune_101 : decode cX7_tune 101 = .ok (.getfield 7, 3) := by decide +kernel
theorem dX7_tune_104 : decode cX7_tune 104 = .ok (.bipush 39, 2) := by decide +kernel
theorem dX7_tune_106 : decode cX7_tune 106 = .ok (.iload_n 1, 1) := by decide +kernel
theorem dX7_tune_107 : decode cX7_tune 107 = .ok (.iastore, 1) := by decide +kernel
theorem dX7_tune_108 : decode cX7_tune 108 = .ok (.iload 7, 2) := by decide +kernel
theorem dX7_tune_110 : decode cX7_tune 110 = .ok (.istore 8, 2) := by decide +kernel
theorem dX7_tune_112 : decode cX7_tune 112 = .ok (.iload_n 1, 1) := by decide +kernel
theorem dX7_tune_113 : decode cX7_tune 113 = .ok (.iconst 1, 1) := by decide +kernel
theorem dX7_tune_114 : decode cX7_tune 114 = .ok (.isub, 1) := by decide +kernel
theorem dX7_tune_115 : decode cX7_tune 115 = .ok (.istore 9, 2) := by decide +kernel
theorem dX7_tune_117 : decode cX7_tune 117 = .ok (.iload 9, 2) := by decide +kernel
theorem dX7_tune_119 : decode cX7_tune 119 = .ok (.ifCond .lt 39, 3) := by decide +kernel
theorem dX7_tune_122 : decode cX7_tune 122 = .ok (.aload_n 0, 1) := by decide +kernel
theorem dX7_tune_123 : decode cX7_tune 123 = .ok (.getfield 7, 3) := by decide +kernel
theorem dX7_tune_126 : decode cX7_tune 126 = .ok (.bipush 68, 2) := by decide +kernel
theorem dX7_tune_128 : decode cX7_tune 128 = .ok (.iload 9, 2) := by decide +kernel
theorem dX7_tune_130 : decode cX7_tune 130 = .ok (.iadd, 1) := by decide +kernel
theorem dX7_tune_131 : decode cX7_tune 131 = .ok (.iload 8, 2) := by decide +kernel
theorem dX7_tune_133 : decode cX7_tune 133 = .ok (.aload_n 0, 1) := by decide +kernel
theorem dX7_tune_134 : decode cX7_tune 134 = .ok (.getfield 7, 3) := by decide +kernel
theorem dX7_tune_137 : decode cX7_tune 137 = .ok (.iconst 0, 1) := by decide +kernel
theorem dX7_tune_138 : decode cX7_tune 138 = .ok (.iaload, 1) := by decide +kernel
theorem dX7_tune_139 : decode cX7_tune 139 = .ok (.irem, 1) := by decide +kernel
theorem dX7_tune_140 : decode cX7_tune 140 = .ok (.iastore, 1) := by decide +kernel
theorem dX7_tune_141 : decode cX7_tune 141 = .ok (.iload 8, 2) := by decide +kernel
theorem dX7_tune_143 : decode cX7_tune 143 = .ok (.aload_n 0, 1) := by decide +kernel
theorem dX7_tune_144 : decode cX7_tune 144 = .ok (.getfield 7, 3) := by decide +kernel
theorem dX7_tune_147 : decode cX7_tune 147 = .ok (.iconst 0, 1) := by decide +kernel
theorem dX7_tune_148 : decode cX7_tune 148 = .ok (.iaload, 1) := by decide +kernel
theorem dX7_tune_149 : decode cX7_tune 149 = .ok (.idiv, 1) := by decide +kernel
theorem dX7_tune_150 : decode cX7_tune 150 = .ok (.istore 8, 2) := by decide +kernel
theorem dX7_tune_152 : decode cX7_tune 152 = .ok (.iinc 9 (-1), 3) := by decide +kernel
theorem dX7_tune_155 : decode cX7_tune 155 = .ok (.goto (-38), 3) := by decide +kernel
theorem dX7_tune_158 : decode cX7_tune 158 = .ok (.aload_n 0, 1) := by decide +kernel
theorem dX7_tune_159 : decode cX7_tune 159 = .ok (.iload_n 2, 1) := by decide +kernel
theorem dX7_tune_160 : decode cX7_tune 160 = .ok (.invokevirtual 170, 3) := by decide +kernel
theorem dX7_tune_163 : decode cX7_tune 163 = .ok (.aload_n 0, 1) := by decide +kernel
theorem dX7_tune_164 : decode cX7_tune 164 = .ok (.getfield 7, 3) := by decide +kernel
theorem dX7_tune_167 : decode cX7_tune 167 = .ok (.bipush 43, 2) := by decide +kernel
theorem dX7_tune_169 : decode cX7_tune 169 = .ok (.iaload, 1) := by decide +kernel
theorem dX7_tune_170 : decode cX7_tune 170 = .ok (.istore 9, 2) := by decide +kernel
theorem dX7_tune_172 : decode cX7_tune 172 = .ok (.aload_n 0, 1) := by decide +kernel
theorem dX7_tune_173 : decode cX7_tune 173 = .ok (.getfield 7, 3) := by decide +kernel
theorem dX7_tune_176 : decode cX7_tune 176 = .ok (.iconst 0, 1) := by decide +kernel
theorem dX7_tune_177 : decode cX7_tune 177 = .ok (.iaload, 1) := by decide +kernel
theorem dX7_tune_178 : decode cX7_tune 178 = .ok (.aload_n 0, 1) := by decide +kernel
theorem dX7_tune_179 : decode cX7_tune 179 = .ok (.bipush 38, 2) := by decide +kernel
theorem dX7_tune_181 : decode cX7_tune 181 = .ok (.invokevirtual 155, 3) := by decide +kernel
theorem dX7_tune_184 : decode cX7_tune 184 = .ok (.invokestatic 182, 3) := by decide +kernel
theorem dX7_tune_187 : decode cX7_tune 187 = .ok (.isub, 1) := by decide +kernel
theorem dX7_tune_188 : decode cX7_tune 188 = .ok (.istore 10, 2) := by decide +kernel
theorem dX7_tune_190 : decode cX7_tune 190 = .ok (.iload 9, 2) := by decide +kernel
theorem dX7_tune_192 : decode cX7_tune 192 = .ok (.iload 5, 2) := by decide +kernel
theorem dX7_tune_194 : decode cX7_tune 194 = .ok (.if_icmp .lt 17, 3) := by decide +kernel
theorem dX7_tune_197 : decode cX7_tune 197 = .ok (.iload 9, 2) := by decide +kernel
theorem dX7_tune_199 : decode cX7_tune 199 = .ok (.iload 5, 2) := by decide +kernel
theorem dX7_tune_201 : decode cX7_tune 201 = .ok (.if_icmp .ne 50, 3) := by decide +kernel
theorem dX7_tune_204 : decode cX7_tune 204 = .ok (.iload 10, 2) := by decide +kernel
theorem dX7_tune_206 : decode cX7_tune 206 = .ok (.iload 6, 2) := by decide +kernel
theorem dX7_tune_208 : decode cX7_tune 208 = .ok (.if_icmp .le 43, 3) := by decide +kernel
theorem dX7_tune_211 : decode cX7_tune 211 = .ok (.iload 9, 2) := by decide +kernel
theorem dX7_tune_213 : decode cX7_tune 213 = .ok (.istore 5, 2) := by decide +kernel
theorem dX7_tune_215 : decode cX7_tune 215 = .ok (.iload 10, 2) := by decide +kernel
theorem dX7_tune_217 : decode cX7_tune 217 = .ok (.istore 6, 2) := by decide +kernel
theorem dX7_tune_219 : decode cX7_tune 219 = .ok (.iconst 0, 1) := by decide +kernel
theorem dX7_tune_220 : decode cX7_tune 220 = .ok (.istore 11, 2) := by decide +kernel
theorem dX7_tune_222 : decode cX7_tune 222 = .ok (.iload 11, 2) := by decide +kernel
theorem dX7_tune_224 : decode cX7_tune 224 = .ok (.iload_n 1, 1) := by decide +kernel
theorem dX7_tune_225 : decode cX7_tune 225 = .ok (.if_icmp .ge 26, 3) := by decide +kernel
theorem dX7_tune_228 : decode cX7_tune 228 = .ok (.aload_n 0, 1) := by decide +kernel
theorem dX7_tune_229 : decode cX7_tune 229 = .ok (.getfield 28, 3) := by decide +kernel
theorem dX7_tune_232 : decode cX7_tune 232 = .ok (.iload 11, 2) := by decide +kernel
theorem dX7_tune_234 : decode cX7_tune 234 = .ok (.aload_n 0, 1) := by decide +kernel
theorem dX7_tune_235 : decode cX7_tune 235 = .ok (.getfield 7, 3) := by decide +kernel
theorem dX7_tune_238 : decode cX7_tune 238 = .ok (.bipush 68, 2) := by decide +kernel
theorem dX7_tune_240 : decode cX7_tune 240 = .ok (.iload 11, 2) := by decide +kernel
theorem dX7_tune_242 : decode cX7_tune 242 = .ok (.iadd, 1) := by decide +kernel
theorem dX7_tune_243 : decode cX7_tune 243 = .ok (.iaload, 1) := by decide +kernel
theorem dX7_tune_244 : decode cX7_tune 244 = .ok (.iastore, 1) := by decide +kernel
theorem dX7_tune_245 : decode cX7_tune 245 = .ok (.iinc 11 1, 3) := by decide +kernel
theorem dX7_tune_248 : decode cX7_tune 248 = .ok (.goto (-26), 3) := by decide +kernel
theorem dX7_tune_251 : decode cX7_tune 251 = .ok (.iinc 7 1, 3) := by decide +kernel
theorem dX7_tune_254 : decode cX7_tune 254 = .ok (.goto (-173), 3) := by decide +kernel
theorem dX7_tune_257 : decode cX7_tune 257 = .ok (.iload_n 3, 1) := by decide +kernel
theorem dX7_tune_258 : decode cX7_tune 258 = .ok (.ifCond .ge 8, 3) := by decide +kernel
theorem dX7_tune_261 : decode cX7_tune 261 = .ok (.iload 5, 2) := by decide +kernel
theorem dX7_tune_263 : decode cX7_tune 263 = .ok (.goto 19, 3) := by decide +kernel
theorem dX7_tune_266 : decode cX7_tune 266 = .ok (.iload_n 3, 1) := by decide +kernel
theorem dX7_tune_267 : decode cX7_tune 267 = .ok (.iload_n 1, 1) := by decide +kernel
theorem dX7_tune_268 : decode cX7_tune 268 = .ok (.if_icmp .ge 12, 3) := by decide +kernel
theorem dX7_tune_271 : decode cX7_tune 271 = .ok (.aload_n 0, 1) := by decide +kernel
theorem dX7_tune_272 : decode cX7_tune 272 = .ok (.getfield 28, 3) := by decide +kernel
theorem dX7_tune_275 : decode cX7_tune 275 = .ok (.iload_n 3, 1) := by decide +kernel
theorem dX7_tune_276 : decode cX7_tune 276 = .ok (.iaload, 1) := by decide +kernel
theorem dX7_tune_277 : decode cX7_tune 277 = .ok (.goto 5, 3) := by decide +kernel
theorem dX7_tune_280 : decode cX7_tune 280 = .ok (.ldc 173, 2) := by decide +kernel
theorem dX7_tune_282 : decode cX7_tune 282 = .ok (.ireturn, 1) := by decide +kernel
theorem dX7_shift_0 : decode cX7_shift 0 = .ok (.aload_n 0, 1) := by decide +kernel
theorem dX7_shift_1 : decode cX7_shift 1 = .ok (.invokevirtual 142, 3) := by decide +kernel
theorem dX7_shift_4 : decode cX7_shift 4 = .ok (.ifCond .ne 6, 3) := by decide +kernel
theorem dX7_shift_7 : decode cX7_shift 7 = .ok (.ldc 145, 2) := by decide +kernel
