theorem dX6_shift_51 : decode cX6_shift 51 = .ok (.if_icmp .ne 7, 3) := by decide +kernel
theorem dX6_shift_54 : decode cX6_shift 54 = .ok (.iload_n 3, 1) := by decide +kernel
theorem dX6_shift_55 : decode cX6_shift 55 = .ok (.goto 10, 3) := by decide +kernel
theorem dX6_shift_58 : decode cX6_shift 58 = .ok (.aload_n 0, 1) := by decide +kernel
theorem dX6_shift_59 : decode cX6_shift 59 = .ok (.getfield 49, 3) := by decide +kernel
theorem dX6_shift_62 : decode cX6_shift 62 = .ok (.getfield 223, 3) := by decide +kernel
theorem dX6_shift_65 : decode cX6_shift 65 = .ok (.ireturn, 1) := by decide +kernel
theorem dX6_cover_0 : decode cX6_cover 0 = .ok (.aload_n 0, 1) := by decide +kernel
theorem dX6_cover_1 : decode cX6_cover 1 = .ok (.invokevirtual 133, 3) := by decide +kernel
theorem dX6_cover_4 : decode cX6_cover 4 = .ok (.ifCond .eq 6, 3) := by decide +kernel
theorem dX6_cover_7 : decode cX6_cover 7 = .ok (.ldc 137, 2) := by decide +kernel
theorem dX6_cover_9 : decode cX6_cover 9 = .ok (.ireturn, 1) := by decide +kernel
theorem dX6_cover_10 : decode cX6_cover 10 = .ok (.iload_n 1, 1) := by decide +kernel
theorem dX6_cover_11 : decode cX6_cover 11 = .ok (.invokestatic 201, 3) := by decide +kernel
theorem dX6_cover_14 : decode cX6_cover 14 = .ok (.ifCond .eq 6, 3) := by decide +kernel
theorem dX6_cover_17 : decode cX6_cover 17 = .ok (.ldc 64, 2) := by decide +kernel
theorem dX6_cover_19 : decode cX6_cover 19 = .ok (.ireturn, 1) := by decide +kernel
theorem dX6_cover_20 : decode cX6_cover 20 = .ok (.aload_n 0, 1) := by decide +kernel
theorem dX6_cover_21 : decode cX6_cover 21 = .ok (.getfield 49, 3) := by decide +kernel
theorem dX6_cover_24 : decode cX6_cover 24 = .ok (.aload_n 0, 1) := by decide +kernel
theorem dX6_cover_25 : decode cX6_cover 25 = .ok (.getfield 26, 3) := by decide +kernel
theorem dX6_cover_28 : decode cX6_cover 28 = .ok (.invokevirtual 232, 3) := by decide +kernel
theorem dX6_cover_31 : decode cX6_cover 31 = .ok (.istore_n 2, 1) := by decide +kernel
theorem dX6_cover_32 : decode cX6_cover 32 = .ok (.iload_n 1, 1) := by decide +kernel
theorem dX6_cover_33 : decode cX6_cover 33 = .ok (.ifCond .ne 10, 3) := by decide +kernel
theorem dX6_cover_36 : decode cX6_cover 36 = .ok (.iload_n 2, 1) := by decide +kernel
theorem dX6_cover_37 : decode cX6_cover 37 = .ok (.invokestatic 236, 3) := by decide +kernel
theorem dX6_cover_40 : decode cX6_cover 40 = .ok (.goto 4, 3) := by decide +kernel
theorem dX6_cover_43 : decode cX6_cover 43 = .ok (.iload_n 2, 1) := by decide +kernel
theorem dX6_cover_44 : decode cX6_cover 44 = .ok (.ireturn, 1) := by decide +kernel
theorem dX6_spread_0 : decode cX6_spread 0 = .ok (.aload_n 0, 1) := by decide +kernel
theorem dX6_spread_1 : decode cX6_spread 1 = .ok (.getfield 26, 3) := by decide +kernel
theorem dX6_spread_4 : decode cX6_spread 4 = .ok (.iload_n 1, 1) := by decide +kernel
theorem dX6_spread_5 : decode cX6_spread 5 = .ok (.invokevirtual 154, 3) := by decide +kernel
theorem dX6_spread_8 : decode cX6_spread 8 = .ok (.ifCond .eq 14, 3) := by decide +kernel
theorem dX6_spread_11 : decode cX6_spread 11 = .ok (.iload_n 2, 1) := by decide +kernel
theorem dX6_spread_12 : decode cX6_spread 12 = .ok (.iconst 1, 1) := by decide +kernel
theorem dX6_spread_13 : decode cX6_spread 13 = .ok (.if_icmp .lt 9, 3) := by decide +kernel
theorem dX6_spread_16 : decode cX6_spread 16 = .ok (.iload_n 2, 1) := by decide +kernel
theorem dX6_spread_17 : decode cX6_spread 17 = .ok (.bipush 30, 2) := by decide +kernel
theorem dX6_spread_19 : decode cX6_spread 19 = .ok (.if_icmp .le 6, 3) := by decide +kernel
theorem dX6_spread_22 : decode cX6_spread 22 = .ok (.ldc 64, 2) := by decide +kernel
theorem dX6_spread_24 : decode cX6_spread 24 = .ok (.ireturn, 1) := by decide +kernel
theorem dX6_spread_25 : decode cX6_spread 25 = .ok (.aload_n 0, 1) := by decide +kernel
theorem dX6_spread_26 : decode cX6_spread 26 = .ok (.getfield 49, 3) := by decide +kernel
theorem dX6_spread_29 : decode cX6_spread 29 = .ok (.aload_n 0, 1) := by decide +kernel
theorem dX6_spread_30 : decode cX6_spread 30 = .ok (.getfield 26, 3) := by decide +kernel
theorem dX6_spread_33 : decode cX6_spread 33 = .ok (.iload_n 1, 1) := by decide +kernel
theorem dX6_spread_34 : decode cX6_spread 34 = .ok (.iload_n 2, 1) := by decide +kernel
theorem dX6_spread_35 : decode cX6_spread 35 = .ok (.invokevirtual 241, 3) := by decide +kernel
theorem dX6_spread_38 : decode cX6_spread 38 = .ok (.ireturn, 1) := by decide +kernel
theorem dX6_skins_0 : decode cX6_skins 0 = .ok (.aload_n 0, 1) := by decide +kernel
theorem dX6_skins_1 : decode cX6_skins 1 = .ok (.getfield 26, 3) := by decide +kernel
theorem dX6_skins_4 : decode cX6_skins 4 = .ok (.iload_n 1, 1) := by decide +kernel
theorem dX6_skins_5 : decode cX6_skins 5 = .ok (.invokevirtual 154, 3) := by decide +kernel
theorem dX6_skins_8 : decode cX6_skins 8 = .ok (.ifCond .eq 14, 3) := by decide +kernel
theorem dX6_skins_11 : decode cX6_skins 11 = .ok (.iload_n 2, 1) := by decide +kernel
theorem dX6_skins_12 : decode cX6_skins 12 = .ok (.ifCond .lt 10, 3) := by decide +kernel
theorem dX6_skins_15 : decode cX6_skins 15 = .ok (.iload_n 2, 1) := by decide +kernel
theorem dX6_skins_16 : decode cX6_skins 16 = .ok (.sipush 999, 3) := by decide +kernel
theorem dX6_skins_19 : decode cX6_skins 19 = .ok (.if_icmp .le 6, 3) := by decide +kernel
theorem dX6_skins_22 : decode cX6_skins 22 = .ok (.ldc 64, 2) := by decide +kernel
theorem dX6_skins_24 : decode cX6_skins 24 = .ok (.ireturn, 1) := by decide +kernel
theorem dX6_skins_25 : decode cX6_skins 25 = .ok (.aload_n 0, 1) := by decide +kernel
theorem dX6_skins_26 : decode cX6_skins 26 = .ok (.getfield 26, 3) := by decide +kernel
theorem dX6_skins_29 : decode cX6_skins 29 = .ok (.iload_n 1, 1) := by decide +kernel
theorem dX6_skins_30 : decode cX6_skins 30 = .ok (.iload_n 2, 1) := by decide +kernel
theorem dX6_skins_31 : decode cX6_skins 31 = .ok (.invokevirtual 245, 3) := by decide +kernel
theorem dX6_skins_34 : decode cX6_skins 34 = .ok (.ireturn, 1) := by decide +kernel
theorem dX6_fits_0 : decode cX6_fits 0 = .ok (.aload_n 0, 1) := by decide +kernel
theorem dX6_fits_1 : decode cX6_fits 1 = .ok (.getfield 26, 3) := by decide +kernel
theorem dX6_fits_4 : decode cX6_fits 4 = .ok (.iload_n 1, 1) := by decide +kernel
theorem dX6_fits_5 : decode cX6_fits 5 = .ok (.invokevirtual 154, 3) := by decide +kernel
theorem dX6_fits_8 : decode cX6_fits 8 = .ok (.ifCond .eq 34, 3) := by decide +kernel
theorem dX6_fits_11 : decode cX6_fits 11 = .ok (.iload_n 2, 1) := by decide +kernel
theorem dX6_fits_12 : decode cX6_fits 12 = .ok (.invokestatic 60, 3) := by decide +kernel
theorem dX6_fits_15 : decode cX6_fits 15 = .ok (.ifCond .eq 27, 3) := by decide +kernel
theorem dX6_fits_18 : decode cX6_fits 18 = .ok (.iload 4, 2) := by decide +kernel
theorem dX6_fits_20 : decode cX6_fits 20 = .ok (.iconst 1, 1) := by decide +kernel
theorem dX6_fits_21 : decode cX6_fits 21 = .ok (.if_icmp .lt 21, 3) := by decide +kernel
theorem dX6_fits_24 : decode cX6_fits 24 = .ok (.iload 4, 2) := by decide +kernel
theorem dX6_fits_26 : decode cX6_fits 26 = .ok (.bipush 12, 2) := by decide +kernel
theorem dX6_fits_28 : decode cX6_fits 28 = .ok (.if_icmp .gt 14, 3) := by decide +kernel
theorem dX6_fits_31 : decode cX6_fits 31 = .ok (.iload 5, 2) := by decide +kernel
theorem dX6_fits_33 : decode cX6_fits 33 = .ok (.ifCond .lt 9, 3) := by decide +kernel
theorem dX6_fits_36 : decode cX6_fits 36 = .ok (.iload 5, 2) := by decide +kernel
theorem dX6_fits_38 : decode cX6_fits 38 = .ok (.iconst 3, 1) := by decide +kernel
theorem dX6_fits_39 : decode cX6_fits 39 = .ok (.if_icmp .le 6, 3) := by decide +kernel
theorem dX6_fits_42 : decode cX6_fits 42 = .ok (.ldc 64, 2) := by decide +kernel
theorem dX6_fits_44 : decode cX6_fits 44 = .ok (.ireturn, 1) := by decide +kernel
theorem dX6_fits_45 : decode cX6_fits 45 = .ok (.aload_n 0, 1) := by decide +kernel
theorem dX6_fits_46 : decode cX6_fits 46 = .ok (.getfield 10, 3) := by decide +kernel
theorem dX6_fits_49 : decode cX6_fits 49 = .ok (.iload_n 2, 1) := by decide +kernel
theorem dX6_fits_50 : decode cX6_fits 50 = .ok (.invokevirtual 76, 3) := by decide +kernel
theorem dX6_fits_53 : decode cX6_fits 53 = .ok (.ifCond .eq 9, 3) := by decide +kernel
theorem dX6_fits_56 : decode cX6_fits 56 = .ok (.aload_n 0, 1) := by decide +kernel
theorem dX6_fits_57 : decode cX6_fits 57 = .ok (.iconst 1, 1) := by decide +kernel
theorem dX6_fits_58 : decode cX6_fits 58 = .ok (.invokevirtual 65, 3) := by decide +kernel
theorem dX6_fits_61 : decode cX6_fits 61 = .ok (.ireturn, 1) := by decide +kernel
theorem dX6_fits_62 : decode cX6_fits 62 = .ok (.aload_n 0, 1) := by decide +kernel
theorem dX6_fits_63 : decode cX6_fits 63 = .ok (.getfield 10, 3) := by decide +kernel
theorem dX6_fits_66 : decode cX6_fits 66 = .ok (.iload_n 2, 1) := by decide +kernel
theorem dX6_fits_67 : decode cX6_fits 67 = .ok (.iload_n 3, 1) := by decide +kernel
theorem dX6_fits_68 : decode cX6_fits 68 = .ok (.iload 4, 2) := by decide +kernel
theorem dX6_fits_70 : decode cX6_fits 70 = .ok (.invokevirtual 79, 3) := by decide +kernel
theorem dX6_fits_73 : decode cX6_fits 73 = .ok (.ifCond .ne 9, 3) := by decide +kernel
theorem dX6_fits_76 : decode cX6_fits 76 = .ok (.aload_n 0, 1) := by decide +kernel
theorem dX6_fits_77 : decode cX6_fits 77 = .ok (.iconst 2, 1) := by decide +kernel
theorem dX6_fits_78 : decode cX6_fits 78 = .ok (.invokevirtual 65, 3) := by decide +kernel
theorem dX6_fits_81 : decode cX6_fits 81 = .ok (.ireturn, 1) := by decide +kernel
theorem dX6_fits_82 : decode cX6_fits 82 = .ok (.aload_n 0, 1) := by decide +kernel
theorem dX6_fits_83 : decode cX6_fits 83 = .ok (.getfield 49, 3) := by decide +kernel
theorem dX6_fits_86 : decode cX6_fits 86 = .ok (.aload_n 0, 1) := by decide +kernel
theorem dX6_fits_87 : decode cX6_fits 87 = .ok (.getfield 10, 3) := by decide +kernel
theorem dX6_fits_90 : decode cX6_fits 90 = .ok (.getfield 91, 3) := by decide +kernel
theorem dX6_fits_93 : decode cX6_fits 93 = .ok (.iload_n 2, 1) := by decide +kernel
theorem dX6_fits_94 : decode cX6_fits 94 = .ok (.aaload, 1) := by decide +kernel
theorem dX6_fits_95 : decode cX6_fits 95 = .ok (.iload_n 3, 1) := by decide +kernel
theorem dX6_fits_96 : decode cX6_fits 96 = .ok (.iload 4, 2) := by decide +kernel
theorem dX6_fits_98 : decode cX6_fits 98 = .ok (.invokevirtual 248, 3) := by decide +kernel
theorem dX6_fits_101 : decode cX6_fits 101 = .ok (.aload_n 0, 1) := by decide +kernel
theorem dX6_fits_102 : decode cX6_fits 102 = .ok (.aload_n 0, 1) := by decide +kernel
theorem dX6_fits_103 : decode cX6_fits 103 = .ok (.getfield 49, 3) := by decide +kernel
theorem dX6_fits_106 : decode cX6_fits 106 = .ok (.aload_n 0, 1) := by decide +kernel
theorem dX6_fits_107 : decode cX6_fits 107 = .ok (.getfield 26, 3) := by decide +kernel
theorem dX6_fits_110 : decode cX6_fits 110 = .ok (.iload_n 1, 1) := by decide +kernel
theorem dX6_fits_111 : decode cX6_fits 111 = .ok (.iload 5, 2) := by decide +kernel
theorem dX6_fits_113 : decode cX6_fits 113 = .ok (.invokevirtual 252, 3) := by decide +kernel
theorem dX6_fits_116 : decode cX6_fits 116 = .ok (.invokevirtual 73, 3) := by decide +kernel
theorem dX6_fits_119 : decode cX6_fits 119 = .ok (.ireturn, 1) := by decide +kernel
theorem dX6_drops_0 : decode cX6_drops 0 = .ok (.aload_n 0, 1) := by decide +kernel
theorem dX6_drops_1 : decode cX6_drops 1 = .ok (.getfield 26, 3) := by decide +kernel
theorem dX6_drops_4 : decode cX6_drops 4 = .ok (.iload_n 1, 1) := by decide +kernel
theorem dX6_drops_5 : decode cX6_drops 5 = .ok (.invokevirtual 154, 3) := by decide +kernel
theorem dX6_drops_8 : decode cX6_drops 8 = .ok (.ifCond .eq 31, 3) := by decide +kernel
theorem dX6_drops_11 : decode cX6_drops 11 = .ok (.iload_n 2, 1) := by decide +kernel
theorem dX6_drops_12 : decode cX6_drops 12 = .ok (.ifCond .lt 27, 3) := by decide +kernel
theorem dX6_drops_15 : decode cX6_drops 15 = .ok (.iload_n 2, 1) := by decide +kernel
theorem dX6_drops_16 : decode cX6_drops 16 = .ok (.bipush 8, 2) := by decide +kernel
theorem dX6_drops_18 : decode cX6_drops 18 = .ok (.if_icmp .gt 21, 3) := by decide +kernel
theorem dX6_drops_21 : decode cX6_drops 21 = .ok (.iload_n 3, 1) := by decide +kernel
theorem dX6_drops_22 : decode cX6_drops 22 = .ok (.ifCond .lt 17, 3) := by decide +kernel
theorem dX6_drops_25 : decode cX6_drops 25 = .ok (.iload_n 3, 1) := by decide +kernel
theorem dX6_drops_26 : decode cX6_drops 26 = .ok (.bipush 10, 2) := by decide +kernel
theorem dX6_drops_28 : decode cX6_drops 28 = .ok (.if_icmp .gt 11, 3) := by decide +kernel
theorem dX6_drops_31 : decode cX6_drops 31 = .ok (.iload 4, 2) := by decide +kernel
theorem dX6_drops_33 : decode cX6_drops 33 = .ok (.invokestatic 201, 3) := by decide +kernel
theorem dX6_drops_36 : decode cX6_drops 36 = .ok (.ifCond .eq 6, 3) := by decide +kernel
theorem dX6_drops_39 : decode cX6_drops 39 = .ok (.ldc 64, 2) := by decide +kernel
theorem dX6_drops_41 : decode cX6_drops 41 = .ok (.ireturn, 1) := by decide +kernel
theorem dX6_drops_42 : decode cX6_drops 42 = .ok (.aload_n 0, 1) := by decide +kernel
theorem dX6_drops_43 : decode cX6_drops 43 = .ok (.getfield 49, 3) := by decide +kernel
theorem dX6_drops_46 : decode cX6_drops 46 = .ok (.aload_n 0, 1) := by decide +kernel
theorem dX6_drops_47 : decode cX6_drops 47 = .ok (.getfield 26, 3) := by decide +kernel
theorem dX6_drops_50 : decode cX6_drops 50 = .ok (.iload_n 1, 1) := by decide +kernel
theorem dX6_drops_51 : decode cX6_drops 51 = .ok (.iload_n 2, 1) := by decide +kernel
theorem dX6_drops_52 : decode cX6_drops 52 = .ok (.iload_n 3, 1) := by decide +kernel
theorem dX6_drops_53 : decode cX6_drops 53 = .ok (.invokevirtual 255, 3) := by decide +kernel
theorem dX6_drops_56 : decode cX6_drops 56 = .ok (.istore 5, 2) := by decide +kernel
theorem dX6_drops_58 : decode cX6_drops 58 = .ok (.iload_n 2, 1) := by decide +kernel
theorem dX6_drops_59 : decode cX6_drops 59 = .ok (.invokestatic 259, 3) := by decide +kernel
theorem dX6_drops_62 : decode cX6_drops 62 = .ok (.istore 6, 2) := by decide +kernel
theorem dX6_drops_64 : decode cX6_drops 64 = .ok (.iload 5, 2) := by decide +kernel
theorem dX6_drops_66 : decode cX6_drops 66 = .ok (.iload 6, 2) := by decide +kernel
theorem dX6_drops_68 : decode cX6_drops 68 = .ok (.invokestatic 262, 3) := by decide +kernel
theorem dX6_drops_71 : decode cX6_drops 71 = .ok (.istore 7, 2) := by decide +kernel
theorem dX6_drops_73 : decode cX6_drops 73 = .ok (.iload 7, 2) := by decide +kernel
theorem dX6_drops_75 : decode cX6_drops 75 = .ok (.iconst 1, 1) := by decide +kernel
theorem dX6_drops_76 : decode cX6_drops 76 = .ok (.if_icmp .ge 7, 3) := by decide +kernel
theorem dX6_drops_79 : decode cX6_drops 79 = .ok (.iconst 0, 1) := by decide +kernel
theorem dX6_drops_80 : decode cX6_drops 80 = .ok (.goto 18, 3) := by decide +kernel
theorem dX6_drops_83 : decode cX6_drops 83 = .ok (.iload 4, 2) := by decide +kernel
theorem dX6_drops_85 : decode cX6_drops 85 = .ok (.ifCond .ne 8, 3) := by decide +kernel
theorem dX6_drops_88 : decode cX6_drops 88 = .ok (.iload 5, 2) := by decide +kernel
theorem dX6_drops_90 : decode cX6_drops 90 = .ok (.goto 5, 3) := by decide +kernel
theorem dX6_drops_93 : decode cX6_drops 93 = .ok (.iload 6, 2) := by decide +kernel
theorem dX6_drops_95 : decode cX6_drops 95 = .ok (.iload 7, 2) := by decide +kernel
theorem dX6_drops_97 : decode cX6_drops 97 = .ok (.idiv, 1) := by decide +kernel
theorem dX6_drops_98 : decode cX6_drops 98 = .ok (.ireturn, 1) := by decide +kernel
theorem dX6_drawn_0 : decode cX6_drawn 0 = .ok (.aload_n 0, 1) := by decide +kernel
theorem dX6_drawn_1 : decode cX6_drawn 1 = .ok (.invokevirtual 133, 3) := by decide +kernel
theorem dX6_drawn_4 : decode cX6_drawn 4 = .ok (.ifCond .eq 6, 3) := by decide +kernel
theorem dX6_drawn_7 : decode cX6_drawn 7 = .ok (.ldc 137, 2) := by decide +kernel
theorem dX6_drawn_9 : decode cX6_drawn 9 = .ok (.ireturn, 1) := by decide +kernel
theorem dX6_drawn_10 : decode cX6_drawn 10 = .ok (.iload_n 1, 1) := by decide +kernel
theorem dX6_drawn_11 : decode cX6_drawn 11 = .ok (.invokestatic 198, 3) := by decide +kernel
theorem dX6_drawn_14 : decode cX6_drawn 14 = .ok (.ifCond .ne 22, 3) := by decide +kernel
theorem dX6_drawn_17 : decode cX6_drawn 17 = .ok (.iload_n 2, 1) := by decide +kernel
theorem dX6_drawn_18 : decode cX6_drawn 18 = .ok (.iconst 1, 1) := by decide +kernel
theorem dX6_drawn_19 : decode cX6_drawn 19 = .ok (.if_icmp .lt 17, 3) := by decide +kernel
theorem dX6_drawn_22 : decode cX6_drawn 22 = .ok (.iload_n 2, 1) := by decide +kernel
theorem dX6_drawn_23 : decode cX6_drawn 23 = .ok (.ldc_w 265, 3) := by decide +kernel
theorem dX6_drawn_26 : decode cX6_drawn 26 = .ok (.if_icmp .gt 10, 3) := by decide +kernel
theorem dX6_drawn_29 : decode cX6_drawn 29 = .ok (.iload_n 3, 1) := by decide +kernel
theorem dX6_drawn_30 : decode cX6_drawn 30 = .ok (.invokestatic 201, 3) := by decide +kernel
theorem dX6_drawn_33 : decode cX6_drawn 33 = .ok (.ifCond .eq 6, 3) := by decide +kernel
theorem dX6_drawn_36 : decode cX6_drawn 36 = .ok (.ldc 64, 2) := by decide +kernel
theorem dX6_drawn_38 : decode cX6_drawn 38 = .ok (.ireturn, 1) := by decide +kernel
theorem dX6_drawn_39 : decode cX6_drawn 39 = .ok (.aload_n 0, 1) := by decide +kernel
theorem dX6_drawn_40 : decode cX6_drawn 40 = .ok (.getfield 49, 3) := by decide +kernel
theorem dX6_drawn_43 : decode cX6_drawn 43 = .ok (.aload_n 0, 1) := by decide +kernel
theorem dX6_drawn_44 : decode cX6_drawn 44 = .ok (.getfield 26, 3) := by decide +kernel
theorem dX6_drawn_47 : decode cX6_drawn 47 = .ok (.iload_n 1, 1) := by decide +kernel
theorem dX6_drawn_48 : decode cX6_drawn 48 = .ok (.iload_n 2, 1) := by decide +kernel
theorem dX6_drawn_49 : decode cX6_drawn 49 = .ok (.invokevirtual 266, 3) := by decide +kernel
theorem dX6_drawn_52 : decode cX6_drawn 52 = .ok (.astore 4, 2) := by decide +kernel
theorem dX6_drawn_54 : decode cX6_drawn 54 = .ok (.iload_n 3, 1) := by decide +kernel
theorem dX6_drawn_55 : decode cX6_drawn 55 = .ok (.ifCond .ne 19, 3) := by decide +kernel
theorem dX6_drawn_58 : decode cX6_drawn 58 = .ok (.aload 4, 2) := by decide +kernel
theorem dX6_drawn_60 : decode cX6_drawn 60 = .ok (.getfield 208, 3) := by decide +kernel
theorem dX6_drawn_63 : decode cX6_drawn 63 = .ok (.aload_n 0, 1) := by decide +kernel
theorem dX6_drawn_64 : decode cX6_drawn 64 = .ok (.getfield 26, 3) := by decide +kernel
theorem dX6_drawn_67 : decode cX6_drawn 67 = .ok (.getfield 208, 3) := by decide +kernel
theorem dX6_drawn_70 : decode cX6_drawn 70 = .ok (.isub, 1) := by decide +kernel
theorem dX6_drawn_71 : decode cX6_drawn 71 = .ok (.goto 11, 3) := by decide +kernel
theorem dX6_drawn_74 : decode cX6_drawn 74 = .ok (.aload 4, 2) := by decide +kernel
theorem dX6_drawn_76 : decode cX6_drawn 76 = .ok (.invokevirtual 147, 3) := by decide +kernel
theorem dX6_drawn_79 : decode cX6_drawn 79 = .ok (.invokestatic 236, 3) := by decide +kernel
theorem dX6_drawn_82 : decode cX6_drawn 82 = .ok (.ireturn, 1) := by decide +kernel
theorem dX6_image_0 : decode cX6_image 0 = .ok (.iload_n 1, 1) := by decide +kernel
theorem dX6_image_1 : decode cX6_image 1 = .ok (.invokestatic 201, 3) := by decide +kernel
theorem dX6_image_4 : decode cX6_image 4 = .ok (.ifCond .eq 6, 3) := by decide +kernel
theorem dX6_image_7 : decode cX6_image 7 = .ok (.ldc 64, 2) := by decide +kernel
theorem dX6_image_9 : decode cX6_image 9 = .ok (.ireturn, 1) := by decide +kernel
theorem dX6_image_10 : decode cX6_image 10 = .ok (.aload_n 0, 1) := by decide +kernel
theorem dX6_image_11 : decode cX6_image 11 = .ok (.invokevirtual 133, 3) := by decide +kernel
theorem dX6_image_14 : decode cX6_image 14 = .ok (.ifCond .eq 6, 3) := by decide +kernel
theorem dX6_image_17 : decode cX6_image 17 = .ok (.ldc 137, 2) := by decide +kernel
theorem dX6_image_19 : decode cX6_image 19 = .ok (.ireturn, 1) := by decide +kernel
theorem dX6_image_20 : decode cX6_image 20 = .ok (.aload_n 0, 1) := by decide +kernel
theorem dX6_image_21 : decode cX6_image 21 = .ok (.iload_n 1, 1) := by decide +kernel
theorem dX6_image_22 : decode cX6_image 22 = .ok (.invokevirtual 270, 3) := by decide +kernel
theorem dX6_image_25 : decode cX6_image 25 = .ok (.aload_n 0, 1) := by decide +kernel
theorem dX6_image_26 : decode cX6_image 26 = .ok (.getfield 26, 3) := by decide +kernel
theorem dX6_image_29 : decode cX6_image 29 = .ok (.invokevirtual 120, 3) := by decide +kernel
theorem dX6_image_32 : decode cX6_image 32 = .ok (.iconst 1, 1) := by decide +kernel
theorem dX6_image_33 : decode cX6_image 33 = .ok (.ireturn, 1) := by decide +kernel
theorem dX6_restore_0 : decode cX6_restore 0 = .ok (.iload_n 1, 1) := by decide +kernel
theorem dX6_restore_1 : decode cX6_restore 1 = .ok (.invokestatic 201, 3) := by decide +kernel
theorem dX6_restore_4 : decode cX6_restore 4 = .ok (.ifCond .eq 6, 3) := by decide +kernel
theorem dX6_restore_7 : decode cX6_restore 7 = .ok (.ldc 64, 2) := by decide +kernel
theorem dX6_restore_9 : decode cX6_restore 9 = .ok (.ireturn, 1) := by decide +kernel
theorem dX6_restore_10 : decode cX6_restore 10 = .ok (.aload_n 0, 1) := by decide +kernel
theorem dX6_restore_11 : decode cX6_restore 11 = .ok (.iload_n 1, 1) := by decide +kernel
theorem dX6_restore_12 : decode cX6_restore 12 = .ok (.invokevirtual 270, 3) := by decide +kernel
theorem dX6_restore_15 : decode cX6_restore 15 = .ok (.getfield 127, 3) := by decide +kernel
theorem dX6_restore_18 : decode cX6_restore 18 = .ok (.ifCond .ne 6, 3) := by decide +kernel
theorem dX6_restore_21 : decode cX6_restore 21 = .ok (.ldc 137, 2) := by decide +kernel
theorem dX6_restore_23 : decode cX6_restore 23 = .ok (.ireturn, 1) := by decide +kernel
theorem dX6_restore_24 : decode cX6_restore 24 = .ok (.aload_n 0, 1) := by decide +kernel
theorem dX6_restore_25 : decode cX6_restore 25 = .ok (.getfield 26, 3) := by decide +kernel
theorem dX6_restore_28 : decode cX6_restore 28 = .ok (.aload_n 0, 1) := by decide +kernel
theorem dX6_restore_29 : decode cX6_restore 29 = .ok (.iload_n 1, 1) := by decide +kernel
theorem dX6_restore_30 : decode cX6_restore 30 = .ok (.invokevirtual 270, 3) := by decide +kernel
theorem dX6_restore_33 : decode cX6_restore 33 = .ok (.invokevirtual 120, 3) := by decide +kernel
theorem dX6_restore_36 : decode cX6_restore 36 = .ok (.aload_n 0, 1) := by decide +kernel
theorem dX6_restore_37 : decode cX6_restore 37 = .ok (.getfield 42, 3) := by decide +kernel
theorem dX6_restore_40 : decode cX6_restore 40 = .ok (.invokevirtual 124, 3) := by decide +kernel
theorem dX6_restore_43 : decode cX6_restore 43 = .ok (.iconst 1, 1) := by decide +kernel
theorem dX6_restore_44 : decode cX6_restore 44 = .ok (.ireturn, 1) := by decide +kernel
theorem dX6_kind_0 : decode cX6_kind 0 = .ok (.aload_n 0, 1) := by decide +kernel
theorem dX6_kind_1 : decode cX6_kind 1 = .ok (.getfield 26, 3) := by decide +kernel
theorem dX6_kind_4 : decode cX6_kind 4 = .ok (.iload_n 1, 1) := by decide +kernel
theorem dX6_kind_5 : decode cX6_kind 5 = .ok (.invokevirtual 154, 3) := by decide +kernel
theorem dX6_kind_8 : decode cX6_kind 8 = .ok (.ifCond .eq 15, 3) := by decide +kernel
theorem dX6_kind_11 : decode cX6_kind 11 = .ok (.aload_n 0, 1) := by decide +kernel
theorem dX6_kind_12 : decode cX6_kind 12 = .ok (.getfield 26, 3) := by decide +kernel
theorem dX6_kind_15 : decode cX6_kind 15 = .ok (.getfield 184, 3) := by decide +kernel
theorem dX6_kind_18 : decode cX6_kind 18 = .ok (.iload_n 1, 1) := by decide +kernel
theorem dX6_kind_19 : decode cX6_kind 19 = .ok (.iaload, 1) := by decide +kernel
theorem dX6_kind_20 : decode cX6_kind 20 = .ok (.goto 5, 3) := by decide +kernel
theorem dX6_kind_23 : decode cX6_kind 23 = .ok (.ldc 64, 2) := by decide +kernel
theorem dX6_kind_25 : decode cX6_kind 25 = .ok (.ireturn, 1) := by decide +kernel
theorem dX6_as_0 : decode cX6_as 0 = .ok (.aload_n 0, 1) := by decide +kernel
theorem dX6_as_1 : decode cX6_as 1 = .ok (.getfield 26, 3) := by decide +kernel
theorem dX6_as_4 : decode cX6_as 4 = .ok (.iload_n 1, 1) := by decide +kernel
theorem dX6_as_5 : decode cX6_as 5 = .ok (.invokevirtual 154, 3) := by decide +kernel
theorem dX6_as_8 : decode cX6_as 8 = .ok (.ifCond .eq 12, 3) := by decide +kernel
theorem dX6_as_11 : decode cX6_as 11 = .ok (.iload_n 2, 1) := by decide +kernel
theorem dX6_as_12 : decode cX6_as 12 = .ok (.ifCond .lt 8, 3) := by decide +kernel
theorem dX6_as_15 : decode cX6_as 15 = .ok (.iload_n 2, 1) := by decide +kernel
theorem dX6_as_16 : decode cX6_as 16 = .ok (.iconst 5, 1) := by decide +kernel
theorem dX6_as_17 : decode cX6_as 17 = .ok (.if_icmp .le 6, 3) := by decide +kernel
theorem dX6_as_20 : decode cX6_as 20 = .ok (.ldc 64, 2) := by decide +kernel
theorem dX6_as_22 : decode cX6_as 22 = .ok (.ireturn, 1) := by decide +kernel
theorem dX6_as_23 : decode cX6_as 23 = .ok (.aload_n 0, 1) := by decide +kernel
theorem dX6_as_24 : decode cX6_as 24 = .ok (.getfield 26, 3) := by decide +kernel
theorem dX6_as_27 : decode cX6_as 27 = .ok (.getfield 184, 3) := by decide +kernel
theorem dX6_as_30 : decode cX6_as 30 = .ok (.iload_n 1, 1) := by decide +kernel
theorem dX6_as_31 : decode cX6_as 31 = .ok (.iaload, 1) := by decide +kernel
theorem dX6_as_32 : decode cX6_as 32 = .ok (.iload_n 2, 1) := by decide +kernel
theorem dX6_as_33 : decode cX6_as 33 = .ok (.invokestatic 274, 3) := by decide +kernel
theorem dX6_as_36 : decode cX6_as 36 = .ok (.ifCond .eq 11, 3) := by decide +kernel
theorem dX6_as_39 : decode cX6_as 39 = .ok (.aload_n 0, 1) := by decide +kernel
theorem dX6_as_40 : decode cX6_as 40 = .ok (.iload_n 1, 1) := by decide +kernel
theorem dX6_as_41 : decode cX6_as 41 = .ok (.invokevirtual 73, 3) := by decide +kernel
theorem dX6_as_44 : decode cX6_as 44 = .ok (.goto 8, 3) := by decide +kernel
theorem dX6_as_47 : decode cX6_as 47 = .ok (.aload_n 0, 1) := by decide +kernel
theorem dX6_as_48 : decode cX6_as 48 = .ok (.iconst 3, 1) := by decide +kernel
theorem dX6_as_49 : decode cX6_as 49 = .ok (.invokevirtual 65, 3) := by decide +kernel
theorem dX6_as_52 : decode cX6_as 52 = .ok (.ireturn, 1) := by decide +kernel
theorem dX6_ask_0 : decode cX6_ask 0 = .ok (.aload_n 0, 1) := by decide +kernel
theorem dX6_ask_1 : decode cX6_ask 1 = .ok (.getfield 26, 3) := by decide +kernel
theorem dX6_ask_4 : decode cX6_ask 4 = .ok (.iload_n 1, 1) := by decide +kernel
theorem dX6_ask_5 : decode cX6_ask 5 = .ok (.invokevirtual 154, 3) := by decide +kernel
theorem dX6_ask_8 : decode cX6_ask 8 = .ok (.ifCond .eq 10, 3) := by decide +kernel
theorem dX6_ask_11 : decode cX6_ask 11 = .ok (.iload_n 2, 1) := by decide +kernel
theorem dX6_ask_12 : decode cX6_ask 12 = .ok (.invokestatic 201, 3) := by decide +kernel
theorem dX6_ask_15 : decode cX6_ask 15 = .ok (.ifCond .eq 6, 3) := by decide +kernel
theorem dX6_ask_18 : decode cX6_ask 18 = .ok (.ldc 64, 2) := by decide +kernel
theorem dX6_ask_20 : decode cX6_ask 20 = .ok (.ireturn, 1) := by decide +kernel
theorem dX6_ask_21 : decode cX6_ask 21 = .ok (.aload_n 0, 1) := by decide +kernel
theorem dX6_ask_22 : decode cX6_ask 22 = .ok (.getfield 56, 3) := by decide +kernel
theorem dX6_ask_25 : decode cX6_ask 25 = .ok (.aload_n 0, 1) := by decide +kernel
theorem dX6_ask_26 : decode cX6_ask 26 = .ok (.getfield 26, 3) := by decide +kernel
theorem dX6_ask_29 : decode cX6_ask 29 = .ok (.iload_n 1, 1) := by decide +kernel
theorem dX6_ask_30 : decode cX6_ask 30 = .ok (.iload_n 2, 1) := by decide +kernel
theorem dX6_ask_31 : decode cX6_ask 31 = .ok (.invokevirtual 278, 3) := by decide +kernel
theorem dX6_ask_34 : decode cX6_ask 34 = .ok (.ireturn, 1) := by decide +kernel
theorem dX6_trace_0 : decode cX6_trace 0 = .ok (.iload_n 1, 1) := by decide +kernel
theorem dX6_trace_1 : decode cX6_trace 1 = .ok (.ifCond .lt 14, 3) := by decide +kernel
theorem dX6_trace_4 : decode cX6_trace 4 = .ok (.iload_n 1, 1) := by decide +kernel
theorem dX6_trace_5 : decode cX6_trace 5 = .ok (.aload_n 0, 1) := by decide +kernel
theorem dX6_trace_6 : decode cX6_trace 6 = .ok (.getfield 56, 3) := by decide +kernel
theorem dX6_trace_9 : decode cX6_trace 9 = .ok (.getfield 281, 3) := by decide +kernel
theorem dX6_trace_12 : decode cX6_trace 12 = .ok (.if_icmp .lt 8, 3) := by decide +kernel
theorem dX6_trace_15 : decode cX6_trace 15 = .ok (.ldc 218, 2) := by decide +kernel
theorem dX6_trace_17 : decode cX6_trace 17 = .ok (.goto 12, 3) := by decide +kernel
theorem dX6_trace_20 : decode cX6_trace 20 = .ok (.aload_n 0, 1) := by decide +kernel
theorem dX6_trace_21 : decode cX6_trace 21 = .ok (.getfield 56, 3) := by decide +kernel
theorem dX6_trace_24 : decode cX6_trace 24 = .ok (.getfield 284, 3) := by decide +kernel
theorem dX6_trace_27 : decode cX6_trace 27 = .ok (.iload_n 1, 1) := by decide +kernel
theorem dX6_trace_28 : decode cX6_trace 28 = .ok (.iaload, 1) := by decide +kernel
theorem dX6_trace_29 : decode cX6_trace 29 = .ok (.ireturn, 1) := by decide +kernel
theorem dX6_count_0 : decode cX6_count 0 = .ok (.iload_n 1, 1) := by decide +kernel
theorem dX6_count_1 : decode cX6_count 1 = .ok (.tableswitch 135 0 9 #[55, 63, 71, 79, 87, 95, 103, 111, 119, 127], 55) := by decide +kernel
theorem dX6_count_56 : decode cX6_count 56 = .ok (.aload_n 0, 1) := by decide +kernel
theorem dX6_count_57 : decode cX6_count 57 = .ok (.getfield 10, 3) := by decide +kernel
theorem dX6_count_60 : decode cX6_count 60 = .ok (.invokevirtual 287, 3) := by decide +kernel
theorem dX6_count_63 : decode cX6_count 63 = .ok (.ireturn, 1) := by decide +kernel
theorem dX6_count_64 : decode cX6_count 64 = .ok (.aload_n 0, 1) := by decide +kernel
theorem dX6_count_65 : decode cX6_count 65 = .ok (.getfield 26, 3) := by decide +kernel
theorem dX6_count_68 : decode cX6_count 68 = .ok (.getfield 127, 3) := by decide +kernel
theorem dX6_count_71 : decode cX6_count 71 = .ok (.ireturn, 1) := by decide +kernel
theorem dX6_count_72 : decode cX6_count 72 = .ok (.aload_n 0, 1) := by decide +kernel
theorem dX6_count_73 : decode cX6_count 73 = .ok (.getfield 26, 3) := by decide +kernel
theorem dX6_count_76 : decode cX6_count 76 = .ok (.getfield 290, 3) := by decide +kernel
theorem dX6_count_79 : decode cX6_count 79 = .ok (.ireturn, 1) := by decide +kernel
theorem dX6_count_80 : decode cX6_count 80 = .ok (.aload_n 0, 1) := by decide +kernel
theorem dX6_count_81 : decode cX6_count 81 = .ok (.getfield 26, 3) := by decide +kernel
theorem dX6_count_84 : decode cX6_count 84 = .ok (.getfield 138, 3) := by decide +kernel
theorem dX6_count_87 : decode cX6_count 87 = .ok (.ireturn, 1) := by decide +kernel
theorem dX6_count_88 : decode cX6_count 88 = .ok (.aload_n 0, 1) := by decide +kernel
theorem dX6_count_89 : decode cX6_count 89 = .ok (.getfield 26, 3) := by decide +kernel
theorem dX6_count_92 : decode cX6_count 92 = .ok (.getfield 160, 3) := by decide +kernel
theorem dX6_count_95 : decode cX6_count 95 = .ok (.ireturn, 1) := by decide +kernel
theorem dX6_count_96 : decode cX6_count 96 = .ok (.aload_n 0, 1) := by decide +kernel
theorem dX6_count_97 : decode cX6_count 97 = .ok (.getfield 26, 3) := by decide +kernel
theorem dX6_count_100 : decode cX6_count 100 = .ok (.getfield 191, 3) := by decide +kernel
theorem dX6_count_103 : decode cX6_count 103 = .ok (.ireturn, 1) := by decide +kernel
theorem dX6_count_104 : decode cX6_count 104 = .ok (.aload_n 0, 1) := by decide +kernel
theorem dX6_count_105 : decode cX6_count 105 = .ok (.getfield 26, 3) := by decide +kernel
theorem dX6_count_108 : decode cX6_count 108 = .ok (.getfield 208, 3) := by decide +kernel
theorem dX6_count_111 : decode cX6_count 111 = .ok (.ireturn, 1) := by decide +kernel
theorem dX6_count_112 : decode cX6_count 112 = .ok (.aload_n 0, 1) := by decide +kernel
theorem dX6_count_113 : decode cX6_count 113 = .ok (.getfield 26, 3) := by decide +kernel
theorem dX6_count_116 : decode cX6_count 116 = .ok (.invokevirtual 147, 3) := by decide +kernel
theorem dX6_count_119 : decode cX6_count 119 = .ok (.ireturn, 1) := by decide +kernel
theorem dX6_count_120 : decode cX6_count 120 = .ok (.aload_n 0, 1) := by decide +kernel
theorem dX6_count_121 : decode cX6_count 121 = .ok (.getfield 42, 3) := by decide +kernel
theorem dX6_count_124 : decode cX6_count 124 = .ok (.getfield 178, 3) := by decide +kernel
theorem dX6_count_127 : decode cX6_count 127 = .ok (.ireturn, 1) := by decide +kernel
theorem dX6_count_128 : decode cX6_count 128 = .ok (.aload_n 0, 1) := by decide +kernel
theorem dX6_count_129 : decode cX6_count 129 = .ok (.getfield 19, 3) := by decide +kernel
theorem dX6_count_132 : decode cX6_count 132 = .ok (.getfield 107, 3) := by decide +kernel
theorem dX6_count_135 : decode cX6_count 135 = .ok (.ireturn, 1) := by decide +kernel
theorem dX6_count_136 : decode cX6_count 136 = .ok (.ldc 64, 2) := by decide +kernel
theorem dX6_count_138 : decode cX6_count 138 = .ok (.ireturn, 1) := by decide +kernel
theorem dX6_status_0 : decode cX6_status 0 = .ok (.aload_n 0, 1) := by decide +kernel
theorem dX6_status_1 : decode cX6_status 1 = .ok (.getfield 293, 3) := by decide +kernel
theorem dX6_status_4 : decode cX6_status 4 = .ok (.ireturn, 1) := by decide +kernel
theorem dX6_found_0 : decode cX6_found 0 = .ok (.aload_n 0, 1) := by decide +kernel
theorem dX6_found_1 : decode cX6_found 1 = .ok (.iload_n 1, 1) := by decide +kernel
theorem dX6_found_2 : decode cX6_found 2 = .ok (.putfield 293, 3) := by decide +kernel
theorem dX6_found_5 : decode cX6_found 5 = .ok (.ldc_w 296, 3) := by decide +kernel
theorem dX6_found_8 : decode cX6_found 8 = .ok (.iload_n 1, 1) := by decide +kernel
theorem dX6_found_9 : decode cX6_found 9 = .ok (.isub, 1) := by decide +kernel
theorem dX6_found_10 : decode cX6_found 10 = .ok (.ireturn, 1) := by decide +kernel
theorem dX6_fine_0 : decode cX6_fine 0 = .ok (.aload_n 0, 1) := by decide +kernel
theorem dX6_fine_1 : decode cX6_fine 1 = .ok (.iconst 0, 1) := by decide +kernel
theorem dX6_fine_2 : decode cX6_fine 2 = .ok (.putfield 293, 3) := by decide +kernel
theorem dX6_fine_5 : decode cX6_fine 5 = .ok (.iload_n 1, 1) := by decide +kernel
theorem dX6_fine_6 : decode cX6_fine 6 = .ok (.ireturn, 1) := by decide +kernel
theorem dX6_noTown_0 : decode cX6_noTown 0 = .ok (.aload_n 0, 1) := by decide +kernel
theorem dX6_noTown_1 : decode cX6_noTown 1 = .ok (.getfield 26, 3) := by decide +kernel
theorem dX6_noTown_4 : decode cX6_noTown 4 = .ok (.getfield 127, 3) := by decide +kernel
theorem dX6_noTown_7 : decode cX6_noTown 7 = .ok (.ifCond .ne 7, 3) := by decide +kernel
theorem dX6_noTown_10 : decode cX6_noTown 10 = .ok (.iconst 1, 1) := by decide +kernel
theorem dX6_noTown_11 : decode cX6_noTown 11 = .ok (.goto 4, 3) := by decide +kernel
theorem dX6_noTown_14 : decode cX6_noTown 14 = .ok (.iconst 0, 1) := by decide +kernel
theorem dX6_noTown_15 : decode cX6_noTown 15 = .ok (.ireturn, 1) := by decide +kernel
theorem dX6_keptImage_0 : decode cX6_keptImage 0 = .ok (.iload_n 1, 1) := by decide +kernel
theorem dX6_keptImage_1 : decode cX6_keptImage 1 = .ok (.ifCond .ne 10, 3) := by decide +kernel
theorem dX6_keptImage_4 : decode cX6_keptImage 4 = .ok (.aload_n 0, 1) := by decide +kernel
theorem dX6_keptImage_5 : decode cX6_keptImage 5 = .ok (.getfield 33, 3) := by decide +kernel
theorem dX6_keptImage_8 : decode cX6_keptImage 8 = .ok (.goto 7, 3) := by decide +kernel
theorem dX6_keptImage_11 : decode cX6_keptImage 11 = .ok (.aload_n 0, 1) := by decide +kernel
theorem dX6_keptImage_12 : decode cX6_keptImage 12 = .ok (.getfield 36, 3) := by decide +kernel
theorem dX6_keptImage_15 : decode cX6_keptImage 15 = .ok (.areturn, 1) := by decide +kernel
theorem dX6_isNoHalf_0 : decode cX6_isNoHalf 0 = .ok (.iload_n 0, 1) := by decide +kernel
theorem dX6_isNoHalf_1 : decode cX6_isNoHalf 1 = .ok (.ifCond .lt 8, 3) := by decide +kernel
theorem dX6_isNoHalf_4 : decode cX6_isNoHalf 4 = .ok (.iload_n 0, 1) := by decide +kernel
theorem dX6_isNoHalf_5 : decode cX6_isNoHalf 5 = .ok (.iconst 1, 1) := by decide +kernel
theorem dX6_isNoHalf_6 : decode cX6_isNoHalf 6 = .ok (.if_icmp .le 7, 3) := by decide +kernel
theorem dX6_isNoHalf_9 : decode cX6_isNoHalf 9 = .ok (.iconst 1, 1) := by decide +kernel
theorem dX6_isNoHalf_10 : decode cX6_isNoHalf 10 = .ok (.goto 4, 3) := by decide +kernel
theorem dX6_isNoHalf_13 : decode cX6_isNoHalf 13 = .ok (.iconst 0, 1) := by decide +kernel
theorem dX6_isNoHalf_14 : decode cX6_isNoHalf 14 = .ok (.ireturn, 1) := by decide +kernel
theorem dX6_isNoFarHour_0 : decode cX6_isNoFarHour 0 = .ok (.iload_n 0, 1) := by decide +kernel
theorem dX6_isNoFarHour_1 : decode cX6_isNoFarHour 1 = .ok (.ifCond .lt 9, 3) := by decide +kernel
theorem dX6_isNoFarHour_4 : decode cX6_isNoFarHour 4 = .ok (.iload_n 0, 1) := by decide +kernel
theorem dX6_isNoFarHour_5 : decode cX6_isNoFarHour 5 = .ok (.bipush 60, 2) := by decide +kernel
theorem dX6_isNoFarHour_7 : decode cX6_isNoFarHour 7 = .ok (.if_icmp .le 7, 3) := by decide +kernel
theorem dX6_isNoFarHour_10 : decode cX6_isNoFarHour 10 = .ok (.iconst 1, 1) := by decide +kernel
theorem dX6_isNoFarHour_11 : decode cX6_isNoFarHour 11 = .ok (.goto 4, 3) := by decide +kernel
theorem dX6_isNoFarHour_14 : decode cX6_isNoFarHour 14 = .ok (.iconst 0, 1) := by decide +kernel
theorem dX6_isNoFarHour_15 : decode cX6_isNoFarHour 15 = .ok (.ireturn, 1) := by decide +kernel
theorem dX7_init_0 : decode cX7_init 0 = .ok (.aload_n 0, 1) := by decide +kernel
theorem dX7_init_1 : decode cX7_init 1 = .ok (.invokespecial 1, 3) := by decide +kernel
theorem dX7_init_4 : decode cX7_init 4 = .ok (.aload_n 0, 1) := by decide +kernel
theorem dX7_init_5 : decode cX7_init 5 = .ok (.sipush 1102, 3) := by decide +kernel
theorem dX7_init_8 : decode cX7_init 8 = .ok (.newarray .int, 2) := by decide +kernel
theorem dX7_init_10 : decode cX7_init 10 = .ok (.putfield 7, 3) := by decide +kernel
theorem dX7_init_13 : decode cX7_init 13 = .ok (.aload_n 0, 1) := by decide +kernel
theorem dX7_init_14 : decode cX7_init 14 = .ok (.bipush 110, 2) := by decide +kernel
theorem dX7_init_16 : decode cX7_init 16 = .ok (.newarray .int, 2) := by decide +kernel
theorem dX7_init_18 : decode cX7_init 18 = .ok (.putfield 13, 3) := by decide +kernel
theorem dX7_init_21 : decode cX7_init 21 = .ok (.aload_n 0, 1) := by decide +kernel
theorem dX7_init_22 : decode cX7_init 22 = .ok (.bipush 8, 2) := by decide +kernel
theorem dX7_init_24 : decode cX7_init 24 = .ok (.newarray .int, 2) := by decide +kernel
theorem dX7_init_26 : decode cX7_init 26 = .ok (.putfield 16, 3) := by decide +kernel
theorem dX7_init_29 : decode cX7_init 29 = .ok (.aload_n 0, 1) := by decide +kernel
theorem dX7_init_30 : decode cX7_init 30 = .ok (.bipush 8, 2) := by decide +kernel
theorem dX7_init_32 : decode cX7_init 32 = .ok (.newarray .int, 2) := by decide +kernel
theorem dX7_init_34 : decode cX7_init 34 = .ok (.putfield 19, 3) := by decide +kernel
theorem dX7_init_37 : decode cX7_init 37 = .ok (.aload_n 0, 1) := by decide +kernel
theorem dX7_init_38 : decode cX7_init 38 = .ok (.sipush 320, 3) := by decide +kernel
theorem dX7_init_41 : decode cX7_init 41 = .ok (.newarray .int, 2) := by decide +kernel
theorem dX7_init_43 : decode cX7_init 43 = .ok (.putfield 22, 3) := by decide +kernel
theorem dX7_init_46 : decode cX7_init 46 = .ok (.aload_n 0, 1) := by decide +kernel
theorem dX7_init_47 : decode cX7_init 47 = .ok (.bipush 40, 2) := by decide +kernel
theorem dX7_init_49 : decode cX7_init 49 = .ok (.newarray .int, 2) := by decide +kernel
theorem dX7_init_51 : decode cX7_init 51 = .ok (.putfield 25, 3) := by decide +kernel
theorem dX7_init_54 : decode cX7_init 54 = .ok (.aload_n 0, 1) := by decide +kernel
theorem dX7_init_55 : decode cX7_init 55 = .ok (.iconst 4, 1) := by decide +kernel
theorem dX7_init_56 : decode cX7_init 56 = .ok (.newarray .int, 2) := by decide +kernel
theorem dX7_init_58 : decode cX7_init 58 = .ok (.putfield 28, 3) := by decide +kernel
theorem dX7_init_61 : decode cX7_init 61 = .ok (.aload_n 0, 1) := by decide +kernel
theorem dX7_init_62 : decode cX7_init 62 = .ok (.iconst 2, 1) := by decide +kernel
theorem dX7_init_63 : decode cX7_init 63 = .ok (.newarray .boolean, 2) := by decide +kernel
theorem dX7_init_65 : decode cX7_init 65 = .ok (.putfield 31, 3) := by decide +kernel
theorem dX7_init_68 : decode cX7_init 68 = .ok (.aload_n 0, 1) := by decide +kernel
theorem dX7_init_69 : decode cX7_init 69 = .ok (.bipush 16, 2) := by decide +kernel
theorem dX7_init_71 : decode cX7_init 71 = .ok (.newarray .int, 2) := by decide +kernel
theorem dX7_init_73 : decode cX7_init 73 = .ok (.putfield 35, 3) := by decide +kernel
theorem dX7_init_76 : decode cX7_init 76 = .ok (.iconst 0, 1) := by decide +kernel
theorem dX7_init_77 : decode cX7_init 77 = .ok (.istore_n 1, 1) := by decide +kernel
theorem dX7_init_78 : decode cX7_init 78 = .ok (.iload_n 1, 1) := by decide +kernel
theorem dX7_init_79 : decode cX7_init 79 = .ok (.bipush 8, 2) := by decide +kernel
theorem dX7_init_81 : decode cX7_init 81 = .ok (.if_icmp .ge 16, 3) := by decide +kernel
theorem dX7_init_84 : decode cX7_init 84 = .ok (.aload_n 0, 1) := by decide +kernel
theorem dX7_init_85 : decode cX7_init 85 = .ok (.getfield 16, 3) := by decide +kernel
theorem dX7_init_88 : decode cX7_init 88 = .ok (.iload_n 1, 1) := by decide +kernel
theorem dX7_init_89 : decode cX7_init 89 = .ok (.iconst (-1), 1) := by decide +kernel
theorem dX7_init_90 : decode cX7_init 90 = .ok (.iastore, 1) := by decide +kernel
theorem dX7_init_91 : decode cX7_init 91 = .ok (.iinc 1 1, 3) := by decide +kernel
theorem dX7_init_94 : decode cX7_init 94 = .ok (.goto (-16), 3) := by decide +kernel
theorem dX7_init_97 : decode cX7_init 97 = .ok (.return_, 1) := by decide +kernel
theorem dX7_in_0 : decode cX7_in 0 = .ok (.lload_n 0, 1) := by decide +kernel
theorem dX7_in_1 : decode cX7_in 1 = .ok (.lload_n 2, 1) := by decide +kernel
theorem dX7_in_2 : decode cX7_in 2 = .ok (.lcmp, 1) := by decide +kernel
theorem dX7_in_3 : decode cX7_in 3 = .ok (.ifCond .lt 14, 3) := by decide +kernel
theorem dX7_in_6 : decode cX7_in 6 = .ok (.lload_n 0, 1) := by decide +kernel
theorem dX7_in_7 : decode cX7_in 7 = .ok (.lload 4, 2) := by decide +kernel
theorem dX7_in_9 : decode cX7_in 9 = .ok (.lcmp, 1) := by decide +kernel
theorem dX7_in_10 : decode cX7_in 10 = .ok (.ifCond .gt 7, 3) := by decide +kernel
theorem dX7_in_13 : decode cX7_in 13 = .ok (.iconst 1, 1) := by decide +kernel
theorem dX7_in_14 : decode cX7_in 14 = .ok (.goto 4, 3) := by decide +kernel
theorem dX7_in_17 : decode cX7_in 17 = .ok (.iconst 0, 1) := by decide +kernel
theorem dX7_in_18 : decode cX7_in 18 = .ok (.ireturn, 1) := by decide +kernel
theorem dX7_has_0 : decode cX7_has 0 = .ok (.iload_n 0, 1) := by decide +kernel
theorem dX7_has_1 : decode cX7_has 1 = .ok (.iload_n 1, 1) := by decide +kernel
theorem dX7_has_2 : decode cX7_has 2 = .ok (.ishr, 1) := by decide +kernel
theorem dX7_has_3 : decode cX7_has 3 = .ok (.iconst 1, 1) := by decide +kernel
theorem dX7_has_4 : decode cX7_has 4 = .ok (.iand, 1) := by decide +kernel
theorem dX7_has_5 : decode cX7_has 5 = .ok (.iconst 1, 1) := by decide +kernel
theorem dX7_has_6 : decode cX7_has 6 = .ok (.if_icmp .ne 7, 3) := by decide +kernel
theorem dX7_has_9 : decode cX7_has 9 = .ok (.iconst 1, 1) := by decide +kernel
theorem dX7_has_10 : decode cX7_has 10 = .ok (.goto 4, 3) := by decide +kernel
theorem dX7_has_13 : decode cX7_has 13 = .ok (.iconst 0, 1) := by decide +kernel
theorem dX7_has_14 : decode cX7_has 14 = .ok (.ireturn, 1) := by decide +kernel
theorem dX7_ones_0 : decode cX7_ones 0 = .ok (.iconst 0, 1) := by decide +kernel
theorem dX7_ones_1 : decode cX7_ones 1 = .ok (.istore_n 1, 1) := by decide +kernel
theorem dX7_ones_2 : decode cX7_ones 2 = .ok (.iconst 0, 1) := by decide +kernel
theorem dX7_ones_3 : decode cX7_ones 3 = .ok (.istore_n 2, 1) := by decide +kernel
theorem dX7_ones_4 : decode cX7_ones 4 = .ok (.iload_n 2, 1) := by decide +kernel
theorem dX7_ones_5 : decode cX7_ones 5 = .ok (.bipush 8, 2) := by decide +kernel
theorem dX7_ones_7 : decode cX7_ones 7 = .ok (.if_icmp .ge 17, 3) := by decide +kernel
theorem dX7_ones_10 : decode cX7_ones 10 = .ok (.iload_n 1, 1) := by decide +kernel
theorem dX7_ones_11 : decode cX7_ones 11 = .ok (.iload_n 0, 1) := by decide +kernel
theorem dX7_ones_12 : decode cX7_ones 12 = .ok (.iload_n 2, 1) := by decide +kernel
theorem dX7_ones_13 : decode cX7_ones 13 = .ok (.ishr, 1) := by decide +kernel
theorem dX7_ones_14 : decode cX7_ones 14 = .ok (.iconst 1, 1) := by decide +kernel
theorem dX7_ones_15 : decode cX7_ones 15 = .ok (.iand, 1) := by decide +kernel
theorem dX7_ones_16 : decode cX7_ones 16 = .ok (.iadd, 1) := by decide +kernel
theorem dX7_ones_17 : decode cX7_ones 17 = .ok (.istore_n 1, 1) := by decide +kernel
theorem dX7_ones_18 : decode cX7_ones 18 = .ok (.iinc 2 1, 3) := by decide +kernel
theorem dX7_ones_21 : decode cX7_ones 21 = .ok (.goto (-17), 3) := by decide +kernel
theorem dX7_ones_24 : decode cX7_ones 24 = .ok (.iload_n 1, 1) := by decide +kernel
theorem dX7_ones_25 : decode cX7_ones 25 = .ok (.ireturn, 1) := by decide +kernel
theorem dX7_copyOf_0 : decode cX7_copyOf 0 = .ok (.iconst 0, 1) := by decide +kernel
theorem dX7_copyOf_1 : decode cX7_copyOf 1 = .ok (.istore_n 3, 1) := by decide +kernel
theorem dX7_copyOf_2 : decode cX7_copyOf 2 = .ok (.iload_n 3, 1) := by decide +kernel
theorem dX7_copyOf_3 : decode cX7_copyOf 3 = .ok (.bipush 38, 2) := by decide +kernel
theorem dX7_copyOf_5 : decode cX7_copyOf 5 = .ok (.if_icmp .ge 25, 3) := by decide +kernel
theorem dX7_copyOf_8 : decode cX7_copyOf 8 = .ok (.aload_n 0, 1) := by decide +kernel
theorem dX7_copyOf_9 : decode cX7_copyOf 9 = .ok (.getfield 7, 3) := by decide +kernel
theorem dX7_copyOf_12 : decode cX7_copyOf 12 = .ok (.iload_n 2, 1) := by decide +kernel
theorem dX7_copyOf_13 : decode cX7_copyOf 13 = .ok (.iload_n 3, 1) := by decide +kernel
theorem dX7_copyOf_14 : decode cX7_copyOf 14 = .ok (.iadd, 1) := by decide +kernel
theorem dX7_copyOf_15 : decode cX7_copyOf 15 = .ok (.aload_n 0, 1) := by decide +kernel
theorem dX7_copyOf_16 : decode cX7_copyOf 16 = .ok (.getfield 7, 3) := by decide +kernel
theorem dX7_copyOf_19 : decode cX7_copyOf 19 = .ok (.iload_n 1, 1) := by decide +kernel
theorem dX7_copyOf_20 : decode cX7_copyOf 20 = .ok (.iload_n 3, 1) := by decide +kernel
theorem dX7_copyOf_21 : decode cX7_copyOf 21 = .ok (.iadd, 1) := by decide +kernel
theorem dX7_copyOf_22 : decode cX7_copyOf 22 = .ok (.iaload, 1) := by decide +kernel
theorem dX7_copyOf_23 : decode cX7_copyOf 23 = .ok (.iastore, 1) := by decide +kernel
theorem dX7_copyOf_24 : decode cX7_copyOf 24 = .ok (.iinc 3 1, 3) := by decide +kernel
theorem dX7_copyOf_27 : decode cX7_copyOf 27 = .ok (.goto (-25), 3) := by decide +kernel
theorem dX7_copyOf_30 : decode cX7_copyOf 30 = .ok (.return_, 1) := by decide +kernel
theorem dX7_isStreet_0 : decode cX7_isStreet 0 = .ok (.iload_n 1, 1) := by decide +kernel
theorem dX7_isStreet_1 : decode cX7_isStreet 1 = .ok (.i2l, 1) := by decide +kernel
theorem dX7_isStreet_2 : decode cX7_isStreet 2 = .ok (.lconst 0, 1) := by decide +kernel
theorem dX7_isStreet_3 : decode cX7_isStreet 3 = .ok (.aload_n 0, 1) := by decide +kernel
theorem dX7_isStreet_4 : decode cX7_isStreet 4 = .ok (.getfield 7, 3) := by decide +kernel
theorem dX7_isStreet_7 : decode cX7_isStreet 7 = .ok (.iconst 0, 1) := by decide +kernel
theorem dX7_isStreet_8 : decode cX7_isStreet 8 = .ok (.iaload, 1) := by decide +kernel
theorem dX7_isStreet_9 : decode cX7_isStreet 9 = .ok (.iconst 1, 1) := by decide +kernel
theorem dX7_isStreet_10 : decode cX7_isStreet 10 = .ok (.isub, 1) := by decide +kernel
theorem dX7_isStreet_11 : decode cX7_isStreet 11 = .ok (.i2l, 1) := by decide +kernel
theorem dX7_isStreet_12 : decode cX7_isStreet 12 = .ok (.invokestatic 38, 3) := by decide +kernel
theorem dX7_isStreet_15 : decode cX7_isStreet 15 = .ok (.ireturn, 1) := by decide +kernel
theorem dX7_isTown_0 : decode cX7_isTown 0 = .ok (.aload_n 0, 1) := by decide +kernel
theorem dX7_isTown_1 : decode cX7_isTown 1 = .ok (.getfield 7, 3) := by decide +kernel
theorem dX7_isTown_4 : decode cX7_isTown 4 = .ok (.iconst 0, 1) := by decide +kernel
theorem dX7_isTown_5 : decode cX7_isTown 5 = .ok (.iaload, 1) := by decide +kernel
theorem dX7_isTown_6 : decode cX7_isTown 6 = .ok (.ifCond .le 7, 3) := by decide +kernel
theorem dX7_isTown_9 : decode cX7_isTown 9 = .ok (.iconst 1, 1) := by decide +kernel
theorem dX7_isTown_10 : decode cX7_isTown 10 = .ok (.goto 4, 3) := by decide +kernel
theorem dX7_isTown_13 : decode cX7_isTown 13 = .ok (.iconst 0, 1) := by decide +kernel
theorem dX7_isTown_14 : decode cX7_isTown 14 = .ok (.ireturn, 1) := by decide +kernel
theorem dX7_isRow_0 : decode cX7_isRow 0 = .ok (.iload_n 0, 1) := by decide +kernel
theorem dX7_isRow_1 : decode cX7_isRow 1 = .ok (.i2l, 1) := by decide +kernel
theorem dX7_isRow_2 : decode cX7_isRow 2 = .ok (.lconst 0, 1) := by decide +kernel
theorem dX7_isRow_3 : decode cX7_isRow 3 = .ok (.ldc2_w 42, 3) := by decide +kernel
theorem dX7_isRow_6 : decode cX7_isRow 6 = .ok (.invokestatic 38, 3) := by decide +kernel
theorem dX7_isRow_9 : decode cX7_isRow 9 = .ok (.ireturn, 1) := by decide +kernel
theorem dX7_finds_0 : decode cX7_finds 0 = .ok (.aload_n 0, 1) := by decide +kernel
theorem dX7_finds_1 : decode cX7_finds 1 = .ok (.iload_n 1, 1) := by decide +kernel
theorem dX7_finds_2 : decode cX7_finds 2 = .ok (.putfield 44, 3) := by decide +kernel
theorem dX7_finds_5 : decode cX7_finds 5 = .ok (.ldc 48, 2) := by decide +kernel
theorem dX7_finds_7 : decode cX7_finds 7 = .ok (.iload_n 1, 1) := by decide +kernel
theorem dX7_finds_8 : decode cX7_finds 8 = .ok (.isub, 1) := by decide +kernel
theorem dX7_finds_9 : decode cX7_finds 9 = .ok (.ireturn, 1) := by decide +kernel
theorem dX7_against_0 : decode cX7_against 0 = .ok (.aload_n 0, 1) := by decide +kernel
theorem dX7_against_1 : decode cX7_against 1 = .ok (.getfield 16, 3) := by decide +kernel
theorem dX7_against_4 : decode cX7_against 4 = .ok (.iload_n 1, 1) := by decide +kernel
theorem dX7_against_5 : decode cX7_against 5 = .ok (.iaload, 1) := by decide +kernel
theorem dX7_against_6 : decode cX7_against 6 = .ok (.ifCond .ge 7, 3) := by decide +kernel
theorem dX7_against_9 : decode cX7_against 9 = .ok (.iconst 1, 1) := by decide +kernel
theorem dX7_against_10 : decode cX7_against 10 = .ok (.goto 32, 3) := by decide +kernel
theorem dX7_against_13 : decode cX7_against 13 = .ok (.iload_n 2, 1) := by decide +kernel
theorem dX7_against_14 : decode cX7_against 14 = .ok (.ifCond .lt 23, 3) := by decide +kernel
theorem dX7_against_17 : decode cX7_against 17 = .ok (.iload_n 3, 1) := by decide +kernel
theorem dX7_against_18 : decode cX7_against 18 = .ok (.ifCond .lt 19, 3) := by decide +kernel
theorem dX7_against_21 : decode cX7_against 21 = .ok (.iload_n 2, 1) := by decide +kernel
theorem dX7_against_22 : decode cX7_against 22 = .ok (.i2l, 1) := by decide +kernel
theorem dX7_against_23 : decode cX7_against 23 = .ok (.iload_n 3, 1) := by decide +kernel
theorem dX7_against_24 : decode cX7_against 24 = .ok (.i2l, 1) := by decide +kernel
theorem dX7_against_25 : decode cX7_against 25 = .ok (.ladd, 1) := by decide +kernel
theorem dX7_against_26 : decode cX7_against 26 = .ok (.aload_n 0, 1) := by decide +kernel
theorem dX7_against_27 : decode cX7_against 27 = .ok (.getfield 16, 3) := by decide +kernel
theorem dX7_against_30 : decode cX7_against 30 = .ok (.iload_n 1, 1) := by decide +kernel
theorem dX7_against_31 : decode cX7_against 31 = .ok (.iaload, 1) := by decide +kernel
theorem dX7_against_32 : decode cX7_against 32 = .ok (.i2l, 1) := by decide +kernel
theorem dX7_against_33 : decode cX7_against 33 = .ok (.lcmp, 1) := by decide +kernel
theorem dX7_against_34 : decode cX7_against 34 = .ok (.ifCond .le 7, 3) := by decide +kernel
theorem dX7_against_37 : decode cX7_against 37 = .ok (.iconst 2, 1) := by decide +kernel
theorem dX7_against_38 : decode cX7_against 38 = .ok (.goto 4, 3) := by decide +kernel
theorem dX7_against_41 : decode cX7_against 41 = .ok (.iconst 0, 1) := by decide +kernel
theorem dX7_against_42 : decode cX7_against 42 = .ok (.ireturn, 1) := by decide +kernel
theorem dX7_row_0 : decode cX7_row 0 = .ok (.iload_n 1, 1) := by decide +kernel
theorem dX7_row_1 : decode cX7_row 1 = .ok (.invokestatic 49, 3) := by decide +kernel
theorem dX7_row_4 : decode cX7_row 4 = .ok (.ifCond .eq 21, 3) := by decide +kernel
theorem dX7_row_7 : decode cX7_row 7 = .ok (.iload_n 2, 1) := by decide +kernel
theorem dX7_row_8 : decode cX7_row 8 = .ok (.i2l, 1) := by decide +kernel
theorem dX7_row_9 : decode cX7_row 9 = .ok (.lconst 0, 1) := by decide +kernel
theorem dX7_row_10 : decode cX7_row 10 = .ok (.ldc2_w 53, 3) := by decide +kernel
theorem dX7_row_13 : decode cX7_row 13 = .ok (.invokestatic 38, 3) := by decide +kernel
theorem dX7_row_16 : decode cX7_row 16 = .ok (.ifCond .eq 9, 3) := by decide +kernel
theorem dX7_row_19 : decode cX7_row 19 = .ok (.iload_n 3, 1) := by decide +kernel
theorem dX7_row_20 : decode cX7_row 20 = .ok (.bipush 40, 2) := by decide +kernel
theorem dX7_row_22 : decode cX7_row 22 = .ok (.if_icmp .le 6, 3) := by decide +kernel
theorem dX7_row_25 : decode cX7_row 25 = .ok (.ldc 55, 2) := by decide +kernel
theorem dX7_row_27 : decode cX7_row 27 = .ok (.ireturn, 1) := by decide +kernel
theorem dX7_row_28 : decode cX7_row 28 = .ok (.iload_n 3, 1) := by decide +kernel
theorem dX7_row_29 : decode cX7_row 29 = .ok (.ifCond .ge 9, 3) := by decide +kernel
theorem dX7_row_32 : decode cX7_row 32 = .ok (.aload_n 0, 1) := by decide +kernel
theorem dX7_row_33 : decode cX7_row 33 = .ok (.iconst 4, 1) := by decide +kernel
theorem dX7_row_34 : decode cX7_row 34 = .ok (.invokevirtual 56, 3) := by decide +kernel
theorem dX7_row_37 : decode cX7_row 37 = .ok (.ireturn, 1) := by decide +kernel
theorem dX7_row_38 : decode cX7_row 38 = .ok (.aload_n 0, 1) := by decide +kernel
theorem dX7_row_39 : decode cX7_row 39 = .ok (.iconst 0, 1) := by decide +kernel
theorem dX7_row_40 : decode cX7_row 40 = .ok (.putfield 44, 3) := by decide +kernel
theorem dX7_row_43 : decode cX7_row 43 = .ok (.aload_n 0, 1) := by decide +kernel
theorem dX7_row_44 : decode cX7_row 44 = .ok (.getfield 16, 3) := by decide +kernel
theorem dX7_row_47 : decode cX7_row 47 = .ok (.iload_n 1, 1) := by decide +kernel
theorem dX7_row_48 : decode cX7_row 48 = .ok (.iload_n 3, 1) := by decide +kernel
theorem dX7_row_49 : decode cX7_row 49 = .ok (.iastore, 1) := by decide +kernel
theorem dX7_row_50 : decode cX7_row 50 = .ok (.aload_n 0, 1) := by decide +kernel
theorem dX7_row_51 : decode cX7_row 51 = .ok (.getfield 19, 3) := by decide +kernel
theorem dX7_row_54 : decode cX7_row 54 = .ok (.iload_n 1, 1) := by decide +kernel
theorem dX7_row_55 : decode cX7_row 55 = .ok (.iload_n 2, 1) := by decide +kernel
theorem dX7_row_56 : decode cX7_row 56 = .ok (.iastore, 1) := by decide +kernel
theorem dX7_row_57 : decode cX7_row 57 = .ok (.iconst 0, 1) := by decide +kernel
theorem dX7_row_58 : decode cX7_row 58 = .ok (.istore 4, 2) := by decide +kernel
theorem dX7_row_60 : decode cX7_row 60 = .ok (.iload 4, 2) := by decide +kernel
theorem dX7_row_62 : decode cX7_row 62 = .ok (.bipush 40, 2) := by decide +kernel
theorem dX7_row_64 : decode cX7_row 64 = .ok (.if_icmp .ge 22, 3) := by decide +kernel
theorem dX7_row_67 : decode cX7_row 67 = .ok (.aload_n 0, 1) := by decide +kernel
theorem dX7_row_68 : decode cX7_row 68 = .ok (.getfield 22, 3) := by decide +kernel
theorem dX7_row_71 : decode cX7_row 71 = .ok (.bipush 40, 2) := by decide +kernel
theorem dX7_row_73 : decode cX7_row 73 = .ok (.iload_n 1, 1) := by decide +kernel
theorem dX7_row_74 : decode cX7_row 74 = .ok (.imul, 1) := by decide +kernel
theorem dX7_row_75 : decode cX7_row 75 = .ok (.iload 4, 2) := by decide +kernel
theorem dX7_row_77 : decode cX7_row 77 = .ok (.iadd, 1) := by decide +kernel
theorem dX7_row_78 : decode cX7_row 78 = .ok (.iconst 0, 1) := by decide +kernel
theorem dX7_row_79 : decode cX7_row 79 = .ok (.iastore, 1) := by decide +kernel
theorem dX7_row_80 : decode cX7_row 80 = .ok (.iinc 4 1, 3) := by decide +kernel
theorem dX7_row_83 : decode cX7_row 83 = .ok (.goto (-23), 3) := by decide +kernel
theorem dX7_row_86 : decode cX7_row 86 = .ok (.iload_n 3, 1) := by decide +kernel
theorem dX7_row_87 : decode cX7_row 87 = .ok (.ireturn, 1) := by decide +kernel
theorem dX7_set_0 : decode cX7_set 0 = .ok (.iload_n 1, 1) := by decide +kernel
theorem dX7_set_1 : decode cX7_set 1 = .ok (.invokestatic 49, 3) := by decide +kernel
theorem dX7_set_4 : decode cX7_set 4 = .ok (.ifCond .ne 6, 3) := by decide +kernel
theorem dX7_set_7 : decode cX7_set 7 = .ok (.ldc 55, 2) := by decide +kernel
theorem dX7_set_9 : decode cX7_set 9 = .ok (.ireturn, 1) := by decide +kernel
theorem dX7_set_10 : decode cX7_set 10 = .ok (.aload_n 0, 1) := by decide +kernel
theorem dX7_set_11 : decode cX7_set 11 = .ok (.iload_n 1, 1) := by decide +kernel
theorem dX7_set_12 : decode cX7_set 12 = .ok (.iload_n 2, 1) := by decide +kernel
theorem dX7_set_13 : decode cX7_set 13 = .ok (.iconst 1, 1) := by decide +kernel
theorem dX7_set_14 : decode cX7_set 14 = .ok (.invokevirtual 60, 3) := by decide +kernel
theorem dX7_set_17 : decode cX7_set 17 = .ok (.istore 4, 2) := by decide +kernel
theorem dX7_set_19 : decode cX7_set 19 = .ok (.iload 4, 2) := by decide +kernel
theorem dX7_set_21 : decode cX7_set 21 = .ok (.ifCond .le 10, 3) := by decide +kernel
theorem dX7_set_24 : decode cX7_set 24 = .ok (.aload_n 0, 1) := by decide +kernel
theorem dX7_set_25 : decode cX7_set 25 = .ok (.iload 4, 2) := by decide +kernel
theorem dX7_set_27 : decode cX7_set 27 = .ok (.invokevirtual 56, 3) := by decide +kernel
theorem dX7_set_30 : decode cX7_set 30 = .ok (.ireturn, 1) := by decide +kernel
theorem dX7_set_31 : decode cX7_set 31 = .ok (.aload_n 0, 1) := by decide +kernel
theorem dX7_set_32 : decode cX7_set 32 = .ok (.iconst 0, 1) := by decide +kernel
theorem dX7_set_33 : decode cX7_set 33 = .ok (.putfield 44, 3) := by decide +kernel
theorem dX7_set_36 : decode cX7_set 36 = .ok (.aload_n 0, 1) := by decide +kernel
theorem dX7_set_37 : decode cX7_set 37 = .ok (.getfield 22, 3) := by decide +kernel
theorem dX7_set_40 : decode cX7_set 40 = .ok (.bipush 40, 2) := by decide +kernel
theorem dX7_set_42 : decode cX7_set 42 = .ok (.iload_n 1, 1) := by decide +kernel
theorem dX7_set_43 : decode cX7_set 43 = .ok (.imul, 1) := by decide +kernel
theorem dX7_set_44 : decode cX7_set 44 = .ok (.iload_n 2, 1) := by decide +kernel
theorem dX7_set_45 : decode cX7_set 45 = .ok (.iadd, 1) := by decide +kernel
theorem dX7_set_46 : decode cX7_set 46 = .ok (.aload_n 0, 1) := by decide +kernel
theorem dX7_set_47 : decode cX7_set 47 = .ok (.getfield 19, 3) := by decide +kernel
theorem dX7_set_50 : decode cX7_set 50 = .ok (.iload_n 1, 1) := by decide +kernel
theorem dX7_set_51 : decode cX7_set 51 = .ok (.iaload, 1) := by decide +kernel
theorem dX7_set_52 : decode cX7_set 52 = .ok (.ifCond .ne 8, 3) := by decide +kernel
theorem dX7_set_55 : decode cX7_set 55 = .ok (.iload_n 3, 1) := by decide +kernel
theorem dX7_set_56 : decode cX7_set 56 = .ok (.i2b, 1) := by decide +kernel
theorem dX7_set_57 : decode cX7_set 57 = .ok (.goto 19, 3) := by decide +kernel
theorem dX7_set_60 : decode cX7_set 60 = .ok (.aload_n 0, 1) := by decide +kernel
theorem dX7_set_61 : decode cX7_set 61 = .ok (.getfield 19, 3) := by decide +kernel
theorem dX7_set_64 : decode cX7_set 64 = .ok (.iload_n 1, 1) := by decide +kernel
theorem dX7_set_65 : decode cX7_set 65 = .ok (.iaload, 1) := by decide +kernel
theorem dX7_set_66 : decode cX7_set 66 = .ok (.iconst 1, 1) := by decide +kernel
theorem dX7_set_67 : decode cX7_set 67 = .ok (.if_icmp .ne 8, 3) := by decide +kernel
theorem dX7_set_70 : decode cX7_set 70 = .ok (.iload_n 3, 1) := by decide +kernel
theorem dX7_set_71 : decode cX7_set 71 = .ok (.i2s, 1) := by decide +kernel
theorem dX7_set_72 : decode cX7_set 72 = .ok (.goto 4, 3) := by decide +kernel
theorem dX7_set_75 : decode cX7_set 75 = .ok (.iload_n 3, 1) := by decide +kernel
theorem dX7_set_76 : decode cX7_set 76 = .ok (.iastore, 1) := by decide +kernel
theorem dX7_set_77 : decode cX7_set 77 = .ok (.aload_n 0, 1) := by decide +kernel
theorem dX7_set_78 : decode cX7_set 78 = .ok (.getfield 22, 3) := by decide +kernel
theorem dX7_set_81 : decode cX7_set 81 = .ok (.bipush 40, 2) := by decide +kernel
theorem dX7_set_83 : decode cX7_set 83 = .ok (.iload_n 1, 1) := by decide +kernel
theorem dX7_set_84 : decode cX7_set 84 = .ok (.imul, 1) := by decide +kernel
theorem dX7_set_85 : decode cX7_set 85 = .ok (.iload_n 2, 1) := by decide +kernel
theorem dX7_set_86 : decode cX7_set 86 = .ok (.iadd, 1) := by decide +kernel
theorem dX7_set_87 : decode cX7_set 87 = .ok (.iaload, 1) := by decide +kernel
theorem dX7_set_88 : decode cX7_set 88 = .ok (.ireturn, 1) := by decide +kernel
theorem dX7_copy_0 : decode cX7_copy 0 = .ok (.iload_n 1, 1) := by decide +kernel
theorem dX7_copy_1 : decode cX7_copy 1 = .ok (.invokestatic 49, 3) := by decide +kernel
theorem dX7_copy_4 : decode cX7_copy 4 = .ok (.ifCond .eq 10, 3) := by decide +kernel
theorem dX7_copy_7 : decode cX7_copy 7 = .ok (.iload_n 3, 1) := by decide +kernel
theorem dX7_copy_8 : decode cX7_copy 8 = .ok (.invokestatic 49, 3) := by decide +kernel
theorem dX7_copy_11 : decode cX7_copy 11 = .ok (.ifCond .ne 6, 3) := by decide +kernel
theorem dX7_copy_14 : decode cX7_copy 14 = .ok (.ldc 55, 2) := by decide +kernel
theorem dX7_copy_16 : decode cX7_copy 16 = .ok (.ireturn, 1) := by decide +kernel
theorem dX7_copy_17 : decode cX7_copy 17 = .ok (.aload_n 0, 1) := by decide +kernel
theorem dX7_copy_18 : decode cX7_copy 18 = .ok (.getfield 16, 3) := by decide +kernel
theorem dX7_copy_21 : decode cX7_copy 21 = .ok (.iload_n 1, 1) := by decide +kernel
theorem dX7_copy_22 : decode cX7_copy 22 = .ok (.iaload, 1) := by decide +kernel
theorem dX7_copy_23 : decode cX7_copy 23 = .ok (.ifCond .lt 12, 3) := by decide +kernel
theorem dX7_copy_26 : decode cX7_copy 26 = .ok (.aload_n 0, 1) := by decide +kernel
theorem dX7_copy_27 : decode cX7_copy 27 = .ok (.getfield 16, 3) := by decide +kernel
theorem dX7_copy_30 : decode cX7_copy 30 = .ok (.iload_n 3, 1) := by decide +kernel
theorem dX7_copy_31 : decode cX7_copy 31 = .ok (.iaload, 1) := by decide +kernel
theorem dX7_copy_32 : decode cX7_copy 32 = .ok (.ifCond .ge 9, 3) := by decide +kernel
theorem dX7_copy_35 : decode cX7_copy 35 = .ok (.aload_n 0, 1) := by decide +kernel
theorem dX7_copy_36 : decode cX7_copy 36 = .ok (.iconst 1, 1) := by decide +kernel
theorem dX7_copy_37 : decode cX7_copy 37 = .ok (.invokevirtual 56, 3) := by decide +kernel
theorem dX7_copy_40 : decode cX7_copy 40 = .ok (.ireturn, 1) := by decide +kernel
theorem dX7_copy_41 : decode cX7_copy 41 = .ok (.aload_n 0, 1) := by decide +kernel
theorem dX7_copy_42 : decode cX7_copy 42 = .ok (.getfield 19, 3) := by decide +kernel
theorem dX7_copy_45 : decode cX7_copy 45 = .ok (.iload_n 1, 1) := by decide +kernel
theorem dX7_copy_46 : decode cX7_copy 46 = .ok (.iaload, 1) := by decide +kernel
theorem dX7_copy_47 : decode cX7_copy 47 = .ok (.aload_n 0, 1) := by decide +kernel
theorem dX7_copy_48 : decode cX7_copy 48 = .ok (.getfield 19, 3) := by decide +kernel
theorem dX7_copy_51 : decode cX7_copy 51 = .ok (.iload_n 3, 1) := by decide +kernel
theorem dX7_copy_52 : decode cX7_copy 52 = .ok (.iaload, 1) := by decide +kernel
theorem dX7_copy_53 : decode cX7_copy 53 = .ok (.if_icmp .eq 9, 3) := by decide +kernel
theorem dX7_copy_56 : decode cX7_copy 56 = .ok (.aload_n 0, 1) := by decide +kernel
theorem dX7_copy_57 : decode cX7_copy 57 = .ok (.iconst 5, 1) := by decide +kernel
theorem dX7_copy_58 : decode cX7_copy 58 = .ok (.invokevirtual 56, 3) := by decide +kernel
theorem dX7_copy_61 : decode cX7_copy 61 = .ok (.ireturn, 1) := by decide +kernel
theorem dX7_copy_62 : decode cX7_copy 62 = .ok (.aload_n 0, 1) := by decide +kernel
theorem dX7_copy_63 : decode cX7_copy 63 = .ok (.iload_n 1, 1) := by decide +kernel
theorem dX7_copy_64 : decode cX7_copy 64 = .ok (.iload_n 2, 1) := by decide +kernel
theorem dX7_copy_65 : decode cX7_copy 65 = .ok (.iload 5, 2) := by decide +kernel
theorem dX7_copy_67 : decode cX7_copy 67 = .ok (.invokevirtual 60, 3) := by decide +kernel
theorem dX7_copy_70 : decode cX7_copy 70 = .ok (.ifCond .gt 15, 3) := by decide +kernel
theorem dX7_copy_73 : decode cX7_copy 73 = .ok (.aload_n 0, 1) := by decide +kernel
theorem dX7_copy_74 : decode cX7_copy 74 = .ok (.iload_n 3, 1) := by decide +kernel
theorem dX7_copy_75 : decode cX7_copy 75 = .ok (.iload 4, 2) := by decide +kernel
theorem dX7_copy_77 : decode cX7_copy 77 = .ok (.iload 5, 2) := by decide +kernel
theorem dX7_copy_79 : decode cX7_copy 79 = .ok (.invokevirtual 60, 3) := by decide +kernel
theorem dX7_copy_82 : decode cX7_copy 82 = .ok (.ifCond .le 9, 3) := by decide +kernel
theorem dX7_copy_85 : decode cX7_copy 85 = .ok (.aload_n 0, 1) := by decide +kernel
theorem dX7_copy_86 : decode cX7_copy 86 = .ok (.iconst 2, 1) := by decide +kernel
theorem dX7_copy_87 : decode cX7_copy 87 = .ok (.invokevirtual 56, 3) := by decide +kernel
theorem dX7_copy_90 : decode cX7_copy 90 = .ok (.ireturn, 1) := by decide +kernel
theorem dX7_copy_91 : decode cX7_copy 91 = .ok (.aload_n 0, 1) := by decide +kernel
theorem dX7_copy_92 : decode cX7_copy 92 = .ok (.iconst 0, 1) := by decide +kernel
theorem dX7_copy_93 : decode cX7_copy 93 = .ok (.putfield 44, 3) := by decide +kernel
theorem dX7_copy_96 : decode cX7_copy 96 = .ok (.iconst 0, 1) := by decide +kernel
theorem dX7_copy_97 : decode cX7_copy 97 = .ok (.istore 6, 2) := by decide +kernel
theorem dX7_copy_99 : decode cX7_copy 99 = .ok (.iload 6, 2) := by decide +kernel
theorem dX7_copy_101 : decode cX7_copy 101 = .ok (.iload 5, 2) := by decide +kernel
theorem dX7_copy_103 : decode cX7_copy 103 = .ok (.if_icmp .ge 30, 3) := by decide +kernel
theorem dX7_copy_106 : decode cX7_copy 106 = .ok (.aload_n 0, 1) := by decide +kernel
theorem dX7_copy_107 : decode cX7_copy 107 = .ok (.getfield 25, 3) := by decide +kernel
theorem dX7_copy_110 : decode cX7_copy 110 = .ok (.iload 6, 2) := by decide +kernel
theorem dX7_copy_112 : decode cX7_copy 112 = .ok (.aload_n 0, 1) := by decide +kernel
theorem dX7_copy_113 : decode cX7_copy 113 = .ok (.getfield 22, 3) := by decide +kernel
theorem dX7_copy_116 : decode cX7_copy 116 = .ok (.bipush 40, 2) := by decide +kernel
theorem dX7_copy_118 : decode cX7_copy 118 = .ok (.iload_n 1, 1) := by decide +kernel
theorem dX7_copy_119 : decode cX7_copy 119 = .ok (.imul, 1) := by decide +kernel
theorem dX7_copy_120 : decode cX7_copy 120 = .ok (.iload_n 2, 1) := by decide +kernel
theorem dX7_copy_121 : decode cX7_copy 121 = .ok (.iadd, 1) := by decide +kernel
theorem dX7_copy_122 : decode cX7_copy 122 = .ok (.iload 6, 2) := by decide +kernel
theorem dX7_copy_124 : decode cX7_copy 124 = .ok (.iadd, 1) := by decide +kernel
theorem dX7_copy_125 : decode cX7_copy 125 = .ok (.iaload, 1) := by decide +kernel
theorem dX7_copy_126 : decode cX7_copy 126 = .ok (.iastore, 1) := by decide +kernel
theorem dX7_copy_127 : decode cX7_copy 127 = .ok (.iinc 6 1, 3) := by decide +kernel
theorem dX7_copy_130 : decode cX7_copy 130 = .ok (.goto (-31), 3) := by decide +kernel
theorem dX7_copy_133 : decode cX7_copy 133 = .ok (.iconst 0, 1) := by decide +kernel
theorem dX7_copy_134 : decode cX7_copy 134 = .ok (.istore 6, 2) := by decide +kernel
theorem dX7_copy_136 : decode cX7_copy 136 = .ok (.iload 6, 2) := by decide +kernel
theorem dX7_copy_138 : decode cX7_copy 138 = .ok (.iload 5, 2) := by decide +kernel
theorem dX7_copy_140 : decode cX7_copy 140 = .ok (.if_icmp .ge 31, 3) := by decide +kernel
theorem dX7_copy_143 : decode cX7_copy 143 = .ok (.aload_n 0, 1) := by decide +kernel
theorem dX7_copy_144 : decode cX7_copy 144 = .ok (.getfield 22, 3) := by decide +kernel
theorem dX7_copy_147 : decode cX7_copy 147 = .ok (.bipush 40, 2) := by decide +kernel
theorem dX7_copy_149 : decode cX7_copy 149 = .ok (.iload_n 3, 1) := by decide +kernel
theorem dX7_copy_150 : decode cX7_copy 150 = .ok (.imul, 1) := by decide +kernel
theorem dX7_copy_151 : decode cX7_copy 151 = .ok (.iload 4, 2) := by decide +kernel
theorem dX7_copy_153 : decode cX7_copy 153 = .ok (.iadd, 1) := by decide +kernel
theorem dX7_copy_154 : decode cX7_copy 154 = .ok (.iload 6, 2) := by decide +kernel
theorem dX7_copy_156 : decode cX7_copy 156 = .ok (.iadd, 1) := by decide +kernel
theorem dX7_copy_157 : decode cX7_copy 157 = .ok (.aload_n 0, 1) := by decide +kernel
theorem dX7_copy_158 : decode cX7_copy 158 = .ok (.getfield 25, 3) := by decide +kernel
theorem dX7_copy_161 : decode cX7_copy 161 = .ok (.iload 6, 2) := by decide +kernel
theorem dX7_copy_163 : decode cX7_copy 163 = .ok (.iaload, 1) := by decide +kernel
theorem dX7_copy_164 : decode cX7_copy 164 = .ok (.iastore, 1) := by decide +kernel
theorem dX7_copy_165 : decode cX7_copy 165 = .ok (.iinc 6 1, 3) := by decide +kernel
theorem dX7_copy_168 : decode cX7_copy 168 = .ok (.goto (-32), 3) := by decide +kernel
theorem dX7_copy_171 : decode cX7_copy 171 = .ok (.iload 5, 2) := by decide +kernel
theorem dX7_copy_173 : decode cX7_copy 173 = .ok (.ireturn, 1) := by decide +kernel
theorem dX7_drop_0 : decode cX7_drop 0 = .ok (.iload_n 1, 1) := by decide +kernel
theorem dX7_drop_1 : decode cX7_drop 1 = .ok (.invokestatic 49, 3) := by decide +kernel
theorem dX7_drop_4 : decode cX7_drop 4 = .ok (.ifCond .ne 6, 3) := by decide +kernel
theorem dX7_drop_7 : decode cX7_drop 7 = .ok (.ldc 55, 2) := by decide +kernel
theorem dX7_drop_9 : decode cX7_drop 9 = .ok (.ireturn, 1) := by decide +kernel
theorem dX7_drop_10 : decode cX7_drop 10 = .ok (.aload_n 0, 1) := by decide +kernel
theorem dX7_drop_11 : decode cX7_drop 11 = .ok (.getfield 16, 3) := by decide +kernel
theorem dX7_drop_14 : decode cX7_drop 14 = .ok (.iload_n 1, 1) := by decide +kernel
theorem dX7_drop_15 : decode cX7_drop 15 = .ok (.iaload, 1) := by decide +kernel
theorem dX7_drop_16 : decode cX7_drop 16 = .ok (.ifCond .ge 9, 3) := by decide +kernel
theorem dX7_drop_19 : decode cX7_drop 19 = .ok (.aload_n 0, 1) := by decide +kernel
theorem dX7_drop_20 : decode cX7_drop 20 = .ok (.iconst 1, 1) := by decide +kernel
theorem dX7_drop_21 : decode cX7_drop 21 = .ok (.invokevirtual 56, 3) := by decide +kernel
theorem dX7_drop_24 : decode cX7_drop 24 = .ok (.ireturn, 1) := by decide +kernel
theorem dX7_drop_25 : decode cX7_drop 25 = .ok (.aload_n 0, 1) := by decide +kernel
theorem dX7_drop_26 : decode cX7_drop 26 = .ok (.iconst 0, 1) := by decide +kernel
theorem dX7_drop_27 : decode cX7_drop 27 = .ok (.putfield 44, 3) := by decide +kernel
theorem dX7_drop_30 : decode cX7_drop 30 = .ok (.aload_n 0, 1) := by decide +kernel
theorem dX7_drop_31 : decode cX7_drop 31 = .ok (.getfield 16, 3) := by decide +kernel
theorem dX7_drop_34 : decode cX7_drop 34 = .ok (.iload_n 1, 1) := by decide +kernel
theorem dX7_drop_35 : decode cX7_drop 35 = .ok (.iaload, 1) := by decide +kernel
theorem dX7_drop_36 : decode cX7_drop 36 = .ok (.istore_n 2, 1) := by decide +kernel
theorem dX7_drop_37 : decode cX7_drop 37 = .ok (.aload_n 0, 1) := by decide +kernel
theorem dX7_drop_38 : decode cX7_drop 38 = .ok (.getfield 16, 3) := by decide +kernel
theorem dX7_drop_41 : decode cX7_drop 41 = .ok (.iload_n 1, 1) := by decide +kernel
theorem dX7_drop_42 : decode cX7_drop 42 = .ok (.iconst (-1), 1) := by decide +kernel
theorem dX7_drop_43 : decode cX7_drop 43 = .ok (.iastore, 1) := by decide +kernel
theorem dX7_drop_44 : decode cX7_drop 44 = .ok (.iload_n 2, 1) := by decide +kernel
theorem dX7_drop_45 : decode cX7_drop 45 = .ok (.ireturn, 1) := by decide +kernel
theorem dX7_feed_0 : decode cX7_feed 0 = .ok (.iload_n 1, 1) := by decide +kernel
theorem dX7_feed_1 : decode cX7_feed 1 = .ok (.i2l, 1) := by decide +kernel
theorem dX7_feed_2 : decode cX7_feed 2 = .ok (.lconst 0, 1) := by decide +kernel
theorem dX7_feed_3 : decode cX7_feed 3 = .ok (.ldc2_w 64, 3) := by decide +kernel
theorem dX7_feed_6 : decode cX7_feed 6 = .ok (.invokestatic 38, 3) := by decide +kernel
theorem dX7_feed_9 : decode cX7_feed 9 = .ok (.ifCond .ne 6, 3) := by decide +kernel
theorem dX7_feed_12 : decode cX7_feed 12 = .ok (.ldc 55, 2) := by decide +kernel
theorem dX7_feed_14 : decode cX7_feed 14 = .ok (.ireturn, 1) := by decide +kernel
theorem dX7_feed_15 : decode cX7_feed 15 = .ok (.aload_n 0, 1) := by decide +kernel
theorem dX7_feed_16 : decode cX7_feed 16 = .ok (.getfield 66, 3) := by decide +kernel
theorem dX7_feed_19 : decode cX7_feed 19 = .ok (.bipush 110, 2) := by decide +kernel
theorem dX7_feed_21 : decode cX7_feed 21 = .ok (.if_icmp .ne 6, 3) := by decide +kernel
theorem dX7_feed_24 : decode cX7_feed 24 = .ok (.ldc 69, 2) := by decide +kernel
theorem dX7_feed_26 : decode cX7_feed 26 = .ok (.ireturn, 1) := by decide +kernel
theorem dX7_feed_27 : decode cX7_feed 27 = .ok (.aload_n 0, 1) := by decide +kernel
theorem dX7_feed_28 : decode cX7_feed 28 = .ok (.getfield 13, 3) := by decide +kernel
theorem dX7_feed_31 : decode cX7_feed 31 = .ok (.aload_n 0, 1) := by decide +kernel
theorem dX7_feed_32 : decode cX7_feed 32 = .ok (.getfield 66, 3) := by decide +kernel
theorem dX7_feed_35 : decode cX7_feed 35 = .ok (.iload_n 1, 1) := by decide +kernel
theorem dX7_feed_36 : decode cX7_feed 36 = .ok (.iastore, 1) := by decide +kernel
theorem dX7_feed_37 : decode cX7_feed 37 = .ok (.aload_n 0, 1) := by decide +kernel
theorem dX7_feed_38 : decode cX7_feed 38 = .ok (.dup, 1) := by decide +kernel
theorem dX7_feed_39 : decode cX7_feed 39 = .ok (.getfield 66, 3) := by decide +kernel
theorem dX7_feed_42 : decode cX7_feed 42 = .ok (.iconst 1, 1) := by decide +kernel
theorem dX7_feed_43 : decode cX7_feed 43 = .ok (.iadd, 1) := by decide +kernel
theorem dX7_feed_44 : decode cX7_feed 44 = .ok (.putfield 66, 3) := by decide +kernel
theorem dX7_feed_47 : decode cX7_feed 47 = .ok (.aload_n 0, 1) := by decide +kernel
theorem dX7_feed_48 : decode cX7_feed 48 = .ok (.getfield 66, 3) := by decide +kernel
theorem dX7_feed_51 : decode cX7_feed 51 = .ok (.ireturn, 1) := by decide +kernel
theorem dX7_here_0 : decode cX7_here 0 = .ok (.aload_n 0, 1) := by decide +kernel
theorem dX7_here_1 : decode cX7_here 1 = .ok (.getfield 70, 3) := by decide +kernel
theorem dX7_here_4 : decode cX7_here 4 = .ok (.aload_n 0, 1) := by decide +kernel
theorem dX7_here_5 : decode cX7_here 5 = .ok (.getfield 66, 3) := by decide +kernel
theorem dX7_here_8 : decode cX7_here 8 = .ok (.if_icmp .ge 15, 3) := by decide +kernel
theorem dX7_here_11 : decode cX7_here 11 = .ok (.aload_n 0, 1) := by decide +kernel
theorem dX7_here_12 : decode cX7_here 12 = .ok (.getfield 13, 3) := by decide +kernel
theorem dX7_here_15 : decode cX7_here 15 = .ok (.aload_n 0, 1) := by decide +kernel
theorem dX7_here_16 : decode cX7_here 16 = .ok (.getfield 70, 3) := by decide +kernel
theorem dX7_here_19 : decode cX7_here 19 = .ok (.iaload, 1) := by decide +kernel
theorem dX7_here_20 : decode cX7_here 20 = .ok (.goto 4, 3) := by decide +kernel
theorem dX7_here_23 : decode cX7_here 23 = .ok (.iconst (-1), 1) := by decide +kernel
theorem dX7_here_24 : decode cX7_here 24 = .ok (.ireturn, 1) := by decide +kernel
theorem dX7_fails_0 : decode cX7_fails 0 = .ok (.aload_n 0, 1) := by decide +kernel
theorem dX7_fails_1 : decode cX7_fails 1 = .ok (.iload_n 1, 1) := by decide +kernel
theorem dX7_fails_2 : decode cX7_fails 2 = .ok (.putfield 73, 3) := by decide +kernel
theorem dX7_fails_5 : decode cX7_fails 5 = .ok (.aload_n 0, 1) := by decide +kernel
theorem dX7_fails_6 : decode cX7_fails 6 = .ok (.iload_n 2, 1) := by decide +kernel
theorem dX7_fails_7 : decode cX7_fails 7 = .ok (.putfield 76, 3) := by decide +kernel
theorem dX7_fails_10 : decode cX7_fails 10 = .ok (.iconst 0, 1) := by decide +kernel
theorem dX7_fails_11 : decode cX7_fails 11 = .ok (.ireturn, 1) := by decide +kernel
theorem dX7_takes_0 : decode cX7_takes 0 = .ok (.aload_n 0, 1) := by decide +kernel
theorem dX7_takes_1 : decode cX7_takes 1 = .ok (.invokevirtual 79, 3) := by decide +kernel
theorem dX7_takes_4 : decode cX7_takes 4 = .ok (.iload_n 1, 1) := by decide +kernel
theorem dX7_takes_5 : decode cX7_takes 5 = .ok (.if_icmp .eq 13, 3) := by decide +kernel
theorem dX7_takes_8 : decode cX7_takes 8 = .ok (.aload_n 0, 1) := by decide +kernel
theorem dX7_takes_9 : decode cX7_takes 9 = .ok (.iconst 1, 1) := by decide +kernel
theorem dX7_takes_10 : decode cX7_takes 10 = .ok (.aload_n 0, 1) := by decide +kernel
theorem dX7_takes_11 : decode cX7_takes 11 = .ok (.getfield 70, 3) := by decide +kernel
theorem dX7_takes_14 : decode cX7_takes 14 = .ok (.invokevirtual 83, 3) := by decide +kernel
theorem dX7_takes_17 : decode cX7_takes 17 = .ok (.ireturn, 1) := by decide +kernel
theorem dX7_takes_18 : decode cX7_takes 18 = .ok (.aload_n 0, 1) := by decide +kernel
theorem dX7_takes_19 : decode cX7_takes 19 = .ok (.dup, 1) := by decide +kernel
theorem dX7_takes_20 : decode cX7_takes 20 = .ok (.getfield 70, 3) := by decide +kernel
theorem dX7_takes_23 : decode cX7_takes 23 = .ok (.iconst 1, 1) := by decide +kernel
theorem dX7_takes_24 : decode cX7_takes 24 = .ok (.iadd, 1) := by decide +kernel
theorem dX7_takes_25 : decode cX7_takes 25 = .ok (.putfield 70, 3) := by decide +kernel
theorem dX7_takes_28 : decode cX7_takes 28 = .ok (.iconst 1, 1) := by decide +kernel
theorem dX7_takes_29 : decode cX7_takes 29 = .ok (.ireturn, 1) := by decide +kernel
theorem dX7_takesNumber_0 : decode cX7_takesNumber 0 = .ok (.aload_n 0, 1) := by decide +kernel
theorem dX7_takesNumber_1 : decode cX7_takesNumber 1 = .ok (.getfield 70, 3) := by decide +kernel
theorem dX7_takesNumber_4 : decode cX7_takesNumber 4 = .ok (.istore_n 3, 1) := by decide +kernel
theorem dX7_takesNumber_5 : decode cX7_takesNumber 5 = .ok (.aload_n 0, 1) := by decide +kernel
theorem dX7_takesNumber_6 : decode cX7_takesNumber 6 = .ok (.iconst 0, 1) := by decide +kernel
theorem dX7_takesNumber_7 : decode cX7_takesNumber 7 = .ok (.putfield 87, 3) := by decide +kernel
theorem dX7_takesNumber_10 : decode cX7_takesNumber 10 = .ok (.aload_n 0, 1) := by decide +kernel
theorem dX7_takesNumber_11 : decode cX7_takesNumber 11 = .ok (.invokevirtual 79, 3) := by decide +kernel
theorem dX7_takesNumber_14 : decode cX7_takesNumber 14 = .ok (.i2l, 1) := by decide +kernel
theorem dX7_takesNumber_15 : decode cX7_takesNumber 15 = .ok (.ldc2_w 90, 3) := by decide +kernel
theorem dX7_takesNumber_18 : decode cX7_takesNumber 18 = .ok (.ldc2_w 92, 3) := by decide +kernel
theorem dX7_takesNumber_21 : decode cX7_takesNumber 21 = .ok (.invokestatic 38, 3) := by decide +kernel
theorem dX7_takesNumber_24 : decode cX7_takesNumber 24 = .ok (.ifCond .eq 52, 3) := by decide +kernel
theorem dX7_takesNumber_27 : decode cX7_takesNumber 27 = .ok (.aload_n 0, 1) := by decide +kernel
theorem dX7_takesNumber_28 : decode cX7_takesNumber 28 = .ok (.aload_n 0, 1) := by decide +kernel
theorem dX7_takesNumber_29 : decode cX7_takesNumber 29 = .ok (.getfield 70, 3) := by decide +kernel
theorem dX7_takesNumber_32 : decode cX7_takesNumber 32 = .ok (.iload_n 3, 1) := by decide +kernel
theorem dX7_takesNumber_33 : decode cX7_takesNumber 33 = .ok (.isub, 1) := by decide +kernel
theorem dX7_takesNumber_34 : decode cX7_takesNumber 34 = .ok (.iconst 2, 1) := by decide +kernel
theorem dX7_takesNumber_35 : decode cX7_takesNumber 35 = .ok (.if_icmp .ge 21, 3) := by decide +kernel
theorem dX7_takesNumber_38 : decode cX7_takesNumber 38 = .ok (.bipush 10, 2) := by decide +kernel
theorem dX7_takesNumber_40 : decode cX7_takesNumber 40 = .ok (.aload_n 0, 1) := by decide +kernel
theorem dX7_takesNumber_41 : decode cX7_takesNumber 41 = .ok (.getfield 87, 3) := by decide +kernel
theorem dX7_takesNumber_44 : decode cX7_takesNumber 44 = .ok (.imul, 1) := by decide +kernel
theorem dX7_takesNumber_45 : decode cX7_takesNumber 45 = .ok (.aload_n 0, 1) := by decide +kernel
theorem dX7_takesNumber_46 : decode cX7_takesNumber 46 = .ok (.invokevirtual 79, 3) := by decide +kernel
theorem dX7_takesNumber_49 : decode cX7_takesNumber 49 = .ok (.iadd, 1) := by decide +kernel
theorem dX7_takesNumber_50 : decode cX7_takesNumber 50 = .ok (.bipush 48, 2) := by decide +kernel
theorem dX7_takesNumber_52 : decode cX7_takesNumber 52 = .ok (.isub, 1) := by decide +kernel
theorem dX7_takesNumber_53 : decode cX7_takesNumber 53 = .ok (.goto 7, 3) := by decide +kernel
theorem dX7_takesNumber_56 : decode cX7_takesNumber 56 = .ok (.aload_n 0, 1) := by decide +kernel
theorem dX7_takesNumber_57 : decode cX7_takesNumber 57 = .ok (.getfield 87, 3) := by decide +kernel
theorem dX7_takesNumber_60 : decode cX7_takesNumber 60 = .ok (.putfield 87, 3) := by decide +kernel
theorem dX7_takesNumber_63 : decode cX7_takesNumber 63 = .ok (.aload_n 0, 1) := by decide +kernel
theorem dX7_takesNumber_64 : decode cX7_takesNumber 64 = .ok (.dup, 1) := by decide +kernel
theorem dX7_takesNumber_65 : decode cX7_takesNumber 65 = .ok (.getfield 70, 3) := by decide +kernel
theorem dX7_takesNumber_68 : decode cX7_takesNumber 68 = .ok (.iconst 1, 1) := by decide +kernel
theorem dX7_takesNumber_69 : decode cX7_takesNumber 69 = .ok (.iadd, 1) := by decide +kernel
theorem dX7_takesNumber_70 : decode cX7_takesNumber 70 = .ok (.putfield 70, 3) := by decide +kernel
theorem dX7_takesNumber_73 : decode cX7_takesNumber 73 = .ok (.goto (-63), 3) := by decide +kernel
theorem dX7_takesNumber_76 : decode cX7_takesNumber 76 = .ok (.aload_n 0, 1) := by decide +kernel
theorem dX7_takesNumber_77 : decode cX7_takesNumber 77 = .ok (.getfield 70, 3) := by decide +kernel
theorem dX7_takesNumber_80 : decode cX7_takesNumber 80 = .ok (.iload_n 3, 1) := by decide +kernel
theorem dX7_takesNumber_81 : decode cX7_takesNumber 81 = .ok (.isub, 1) := by decide +kernel
theorem dX7_takesNumber_82 : decode cX7_takesNumber 82 = .ok (.i2l, 1) := by decide +kernel
theorem dX7_takesNumber_83 : decode cX7_takesNumber 83 = .ok (.lconst 1, 1) := by decide +kernel
theorem dX7_takesNumber_84 : decode cX7_takesNumber 84 = .ok (.ldc2_w 53, 3) := by decide +kernel
theorem dX7_takesNumber_87 : decode cX7_takesNumber 87 = .ok (.invokestatic 38, 3) := by decide +kernel
theorem dX7_takesNumber_90 : decode cX7_takesNumber 90 = .ok (.ifCond .ne 10, 3) := by decide +kernel
theorem dX7_takesNumber_93 : decode cX7_takesNumber 93 = .ok (.aload_n 0, 1) := by decide +kernel
theorem dX7_takesNumber_94 : decode cX7_takesNumber 94 = .ok (.iconst 1, 1) := by decide +kernel
theorem dX7_takesNumber_95 : decode cX7_takesNumber 95 = .ok (.iload_n 3, 1) := by decide +kernel
theorem dX7_takesNumber_96 : decode cX7_takesNumber 96 = .ok (.invokevirtual 83, 3) := by decide +kernel
theorem dX7_takesNumber_99 : decode cX7_takesNumber 99 = .ok (.ireturn, 1) := by decide +kernel
theorem dX7_takesNumber_100 : decode cX7_takesNumber 100 = .ok (.aload_n 0, 1) := by decide +kernel
theorem dX7_takesNumber_101 : decode cX7_takesNumber 101 = .ok (.getfield 87, 3) := by decide +kernel
theorem dX7_takesNumber_104 : decode cX7_takesNumber 104 = .ok (.i2l, 1) := by decide +kernel
theorem dX7_takesNumber_105 : decode cX7_takesNumber 105 = .ok (.iload_n 1, 1) := by decide +kernel
theorem dX7_takesNumber_106 : decode cX7_takesNumber 106 = .ok (.i2l, 1) := by decide +kernel
theorem dX7_takesNumber_107 : decode cX7_takesNumber 107 = .ok (.iload_n 2, 1) := by decide +kernel
theorem dX7_takesNumber_108 : decode cX7_takesNumber 108 = .ok (.i2l, 1) := by decide +kernel
theorem dX7_takesNumber_109 : decode cX7_takesNumber 109 = .ok (.invokestatic 38, 3) := by decide +kernel
theorem dX7_takesNumber_112 : decode cX7_takesNumber 112 = .ok (.ifCond .ne 10, 3) := by decide +kernel
theorem dX7_takesNumber_115 : decode cX7_takesNumber 115 = .ok (.aload_n 0, 1) := by decide +kernel
theorem dX7_takesNumber_116 : decode cX7_takesNumber 116 = .ok (.iconst 2, 1) := by decide +kernel
theorem dX7_takesNumber_117 : decode cX7_takesNumber 117 = .ok (.iload_n 3, 1) := by decide +kernel
theorem dX7_takesNumber_118 : decode cX7_takesNumber 118 = .ok (.invokevirtual 83, 3) := by decide +kernel
theorem dX7_takesNumber_121 : decode cX7_takesNumber 121 = .ok (.ireturn, 1) := by decide +kernel
theorem dX7_takesNumber_122 : decode cX7_takesNumber 122 = .ok (.iconst 1, 1) := by decide +kernel
theorem dX7_takesNumber_123 : decode cX7_takesNumber 123 = .ok (.ireturn, 1) := by decide +kernel
theorem dX7_kindOf_0 : decode cX7_kindOf 0 = .ok (.iload_n 0, 1) := by decide +kernel
theorem dX7_kindOf_1 : decode cX7_kindOf 1 = .ok (.bipush 97, 2) := by decide +kernel
theorem dX7_kindOf_3 : decode cX7_kindOf 3 = .ok (.if_icmp .ne 7, 3) := by decide +kernel
theorem dX7_kindOf_6 : decode cX7_kindOf 6 = .ok (.iconst 1, 1) := by decide +kernel
theorem dX7_kindOf_7 : decode cX7_kindOf 7 = .ok (.goto 44, 3) := by decide +kernel
theorem dX7_kindOf_10 : decode cX7_kindOf 10 = .ok (.iload_n 0, 1) := by decide +kernel
theorem dX7_kindOf_11 : decode cX7_kindOf 11 = .ok (.bipush 110, 2) := by decide +kernel
theorem dX7_kindOf_13 : decode cX7_kindOf 13 = .ok (.if_icmp .ne 7, 3) := by decide +kernel
theorem dX7_kindOf_16 : decode cX7_kindOf 16 = .ok (.iconst 2, 1) := by decide +kernel
theorem dX7_kindOf_17 : decode cX7_kindOf 17 = .ok (.goto 34, 3) := by decide +kernel
theorem dX7_kindOf_20 : decode cX7_kindOf 20 = .ok (.iload_n 0, 1) := by decide +kernel
theorem dX7_kindOf_21 : decode cX7_kindOf 21 = .ok (.bipush 103, 2) := by decide +kernel
theorem dX7_kindOf_23 : decode cX7_kindOf 23 = .ok (.if_icmp .ne 7, 3) := by decide +kernel
theorem dX7_kindOf_26 : decode cX7_kindOf 26 = .ok (.iconst 3, 1) := by decide +kernel
theorem dX7_kindOf_27 : decode cX7_kindOf 27 = .ok (.goto 24, 3) := by decide +kernel
theorem dX7_kindOf_30 : decode cX7_kindOf 30 = .ok (.iload_n 0, 1) := by decide +kernel
theorem dX7_kindOf_31 : decode cX7_kindOf 31 = .ok (.bipush 116, 2) := by decide +kernel
theorem dX7_kindOf_33 : decode cX7_kindOf 33 = .ok (.if_icmp .ne 7, 3) := by decide +kernel
theorem dX7_kindOf_36 : decode cX7_kindOf 36 = .ok (.iconst 4, 1) := by decide +kernel
theorem dX7_kindOf_37 : decode cX7_kindOf 37 = .ok (.goto 14, 3) := by decide +kernel
theorem dX7_kindOf_40 : decode cX7_kindOf 40 = .ok (.iload_n 0, 1) := by decide +kernel
theorem dX7_kindOf_41 : decode cX7_kindOf 41 = .ok (.bipush 112, 2) := by decide +kernel
theorem dX7_kindOf_43 : decode cX7_kindOf 43 = .ok (.if_icmp .ne 7, 3) := by decide +kernel
theorem dX7_kindOf_46 : decode cX7_kindOf 46 = .ok (.iconst 5, 1) := by decide +kernel
theorem dX7_kindOf_47 : decode cX7_kindOf 47 = .ok (.goto 4, 3) := by decide +kernel
theorem dX7_kindOf_50 : decode cX7_kindOf 50 = .ok (.iconst 0, 1) := by decide +kernel
theorem dX7_kindOf_51 : decode cX7_kindOf 51 = .ok (.ireturn, 1) := by decide +kernel
theorem dX7_takesLaw_0 : decode cX7_takesLaw 0 = .ok (.aload_n 0, 1) := by decide +kernel
theorem dX7_takesLaw_1 : decode cX7_takesLaw 1 = .ok (.bipush 100, 2) := by decide +kernel
theorem dX7_takesLaw_3 : decode cX7_takesLaw 3 = .ok (.invokevirtual 94, 3) := by decide +kernel
theorem dX7_takesLaw_6 : decode cX7_takesLaw 6 = .ok (.ifCond .eq 12, 3) := by decide +kernel
theorem dX7_takesLaw_9 : decode cX7_takesLaw 9 = .ok (.aload_n 0, 1) := by decide +kernel
theorem dX7_takesLaw_10 : decode cX7_takesLaw 10 = .ok (.iconst 0, 1) := by decide +kernel
theorem dX7_takesLaw_11 : decode cX7_takesLaw 11 = .ok (.iconst 3, 1) := by decide +kernel
theorem dX7_takesLaw_12 : decode cX7_takesLaw 12 = .ok (.invokevirtual 97, 3) := by decide +kernel
theorem dX7_takesLaw_15 : decode cX7_takesLaw 15 = .ok (.ifCond .ne 5, 3) := by decide +kernel
theorem dX7_takesLaw_18 : decode cX7_takesLaw 18 = .ok (.iconst 0, 1) := by decide +kernel
theorem dX7_takesLaw_19 : decode cX7_takesLaw 19 = .ok (.ireturn, 1) := by decide +kernel
theorem dX7_takesLaw_20 : decode cX7_takesLaw 20 = .ok (.aload_n 0, 1) := by decide +kernel
theorem dX7_takesLaw_21 : decode cX7_takesLaw 21 = .ok (.getfield 7, 3) := by decide +kernel
theorem dX7_takesLaw_24 : decode cX7_takesLaw 24 = .ok (.sipush 154, 3) := by decide +kernel
theorem dX7_takesLaw_27 : decode cX7_takesLaw 27 = .ok (.aload_n 0, 1) := by decide +kernel
theorem dX7_takesLaw_28 : decode cX7_takesLaw 28 = .ok (.getfield 87, 3) := by decide +kernel
theorem dX7_takesLaw_31 : decode cX7_takesLaw 31 = .ok (.iastore, 1) := by decide +kernel
theorem dX7_takesLaw_32 : decode cX7_takesLaw 32 = .ok (.aload_n 0, 1) := by decide +kernel
theorem dX7_takesLaw_33 : decode cX7_takesLaw 33 = .ok (.bipush 44, 2) := by decide +kernel
theorem dX7_takesLaw_35 : decode cX7_takesLaw 35 = .ok (.invokevirtual 94, 3) := by decide +kernel
theorem dX7_takesLaw_38 : decode cX7_takesLaw 38 = .ok (.ifCond .eq 13, 3) := by decide +kernel
theorem dX7_takesLaw_41 : decode cX7_takesLaw 41 = .ok (.aload_n 0, 1) := by decide +kernel
theorem dX7_takesLaw_42 : decode cX7_takesLaw 42 = .ok (.iconst 0, 1) := by decide +kernel
theorem dX7_takesLaw_43 : decode cX7_takesLaw 43 = .ok (.bipush 9, 2) := by decide +kernel
theorem dX7_takesLaw_45 : decode cX7_takesLaw 45 = .ok (.invokevirtual 97, 3) := by decide +kernel
theorem dX7_takesLaw_48 : decode cX7_takesLaw 48 = .ok (.ifCond .ne 5, 3) := by decide +kernel
theorem dX7_takesLaw_51 : decode cX7_takesLaw 51 = .ok (.iconst 0, 1) := by decide +kernel
theorem dX7_takesLaw_52 : decode cX7_takesLaw 52 = .ok (.ireturn, 1) := by decide +kernel
theorem dX7_takesLaw_53 : decode cX7_takesLaw 53 = .ok (.aload_n 0, 1) := by decide +kernel
theorem dX7_takesLaw_54 : decode cX7_takesLaw 54 = .ok (.getfield 7, 3) := by decide +kernel
theorem dX7_takesLaw_57 : decode cX7_takesLaw 57 = .ok (.sipush 155, 3) := by decide +kernel
theorem dX7_takesLaw_60 : decode cX7_takesLaw 60 = .ok (.aload_n 0, 1) := by decide +kernel
theorem dX7_takesLaw_61 : decode cX7_takesLaw 61 = .ok (.getfield 87, 3) := by decide +kernel
theorem dX7_takesLaw_64 : decode cX7_takesLaw 64 = .ok (.iastore, 1) := by decide +kernel
theorem dX7_takesLaw_65 : decode cX7_takesLaw 65 = .ok (.aload_n 0, 1) := by decide +kernel
theorem dX7_takesLaw_66 : decode cX7_takesLaw 66 = .ok (.bipush 59, 2) := by decide +kernel
theorem dX7_takesLaw_68 : decode cX7_takesLaw 68 = .ok (.invokevirtual 94, 3) := by decide +kernel
theorem dX7_takesLaw_71 : decode cX7_takesLaw 71 = .ok (.ireturn, 1) := by decide +kernel
theorem dX7_takesStreet_0 : decode cX7_takesStreet 0 = .ok (.aload_n 0, 1) := by decide +kernel
theorem dX7_takesStreet_1 : decode cX7_takesStreet 1 = .ok (.getfield 7, 3) := by decide +kernel
theorem dX7_takesStreet_4 : decode cX7_takesStreet 4 = .ok (.sipush 152, 3) := by decide +kernel
theorem dX7_takesStreet_7 : decode cX7_takesStreet 7 = .ok (.iaload, 1) := by decide +kernel
theorem dX7_takesStreet_8 : decode cX7_takesStreet 8 = .ok (.istore_n 1, 1) := by decide +kernel
theorem dX7_takesStreet_9 : decode cX7_takesStreet 9 = .ok (.aload_n 0, 1) := by decide +kernel
theorem dX7_takesStreet_10 : decode cX7_takesStreet 10 = .ok (.invokevirtual 79, 3) := by decide +kernel
theorem dX7_takesStreet_13 : decode cX7_takesStreet 13 = .ok (.invokestatic 100, 3) := by decide +kernel
theorem dX7_takesStreet_16 : decode cX7_takesStreet 16 = .ok (.istore_n 2, 1) := by decide +kernel
theorem dX7_takesStreet_17 : decode cX7_takesStreet 17 = .ok (.iload_n 2, 1) := by decide +kernel
theorem dX7_takesStreet_18 : decode cX7_takesStreet 18 = .ok (.ifCond .ne 13, 3) := by decide +kernel
theorem dX7_takesStreet_21 : decode cX7_takesStreet 21 = .ok (.aload_n 0, 1) := by decide +kernel
theorem dX7_takesStreet_22 : decode cX7_takesStreet 22 = .ok (.iconst 1, 1) := by decide +kernel
theorem dX7_takesStreet_23 : decode cX7_takesStreet 23 = .ok (.aload_n 0, 1) := by decide +kernel
theorem dX7_takesStreet_24 : decode cX7_takesStreet 24 = .ok (.getfield 70, 3) := by decide +kernel
theorem dX7_takesStreet_27 : decode cX7_takesStreet 27 = .ok (.invokevirtual 83, 3) := by decide +kernel
theorem dX7_takesStreet_30 : decode cX7_takesStreet 30 = .ok (.ireturn, 1) := by decide +kernel
theorem dX7_takesStreet_31 : decode cX7_takesStreet 31 = .ok (.iload_n 1, 1) := by decide +kernel
theorem dX7_takesStreet_32 : decode cX7_takesStreet 32 = .ok (.bipush 8, 2) := by decide +kernel
theorem dX7_takesStreet_34 : decode cX7_takesStreet 34 = .ok (.if_icmp .ne 13, 3) := by decide +kernel
theorem dX7_takesStreet_37 : decode cX7_takesStreet 37 = .ok (.aload_n 0, 1) := by decide +kernel
theorem dX7_takesStreet_38 : decode cX7_takesStreet 38 = .ok (.iconst 3, 1) := by decide +kernel
theorem dX7_takesStreet_39 : decode cX7_takesStreet 39 = .ok (.aload_n 0, 1) := by decide +kernel
theorem dX7_takesStreet_40 : decode cX7_takesStreet 40 = .ok (.getfield 70, 3) := by decide +kernel
theorem dX7_takesStreet_43 : decode cX7_takesStreet 43 = .ok (.invokevirtual 83, 3) := by decide +kernel
theorem dX7_takesStreet_46 : decode cX7_takesStreet 46 = .ok (.ireturn, 1) := by decide +kernel
theorem dX7_takesStreet_47 : decode cX7_takesStreet 47 = .ok (.aload_n 0, 1) := by decide +kernel
theorem dX7_takesStreet_48 : decode cX7_takesStreet 48 = .ok (.dup, 1) := by decide +kernel
theorem dX7_takesStreet_49 : decode cX7_takesStreet 49 = .ok (.getfield 70, 3) := by decide +kernel
theorem dX7_takesStreet_52 : decode cX7_takesStreet 52 = .ok (.iconst 1, 1) := by decide +kernel
theorem dX7_takesStreet_53 : decode cX7_takesStreet 53 = .ok (.iadd, 1) := by decide +kernel
theorem dX7_takesStreet_54 : decode cX7_takesStreet 54 = .ok (.putfield 70, 3) := by decide +kernel
theorem dX7_takesStreet_57 : decode cX7_takesStreet 57 = .ok (.aload_n 0, 1) := by decide +kernel
theorem dX7_takesStreet_58 : decode cX7_takesStreet 58 = .ok (.getfield 7, 3) := by decide +kernel
theorem dX7_takesStreet_61 : decode cX7_takesStreet 61 = .ok (.sipush 158, 3) := by decide +kernel
theorem dX7_takesStreet_64 : decode cX7_takesStreet 64 = .ok (.iload_n 1, 1) := by decide +kernel
theorem dX7_takesStreet_65 : decode cX7_takesStreet 65 = .ok (.iadd, 1) := by decide +kernel
theorem dX7_takesStreet_66 : decode cX7_takesStreet 66 = .ok (.iload_n 2, 1) := by decide +kernel
theorem dX7_takesStreet_67 : decode cX7_takesStreet 67 = .ok (.iastore, 1) := by decide +kernel
theorem dX7_takesStreet_68 : decode cX7_takesStreet 68 = .ok (.aload_n 0, 1) := by decide +kernel
theorem dX7_takesStreet_69 : decode cX7_takesStreet 69 = .ok (.iconst 0, 1) := by decide +kernel
theorem dX7_takesStreet_70 : decode cX7_takesStreet 70 = .ok (.bipush 20, 2) := by decide +kernel
theorem dX7_takesStreet_72 : decode cX7_takesStreet 72 = .ok (.invokevirtual 97, 3) := by decide +kernel
theorem dX7_takesStreet_75 : decode cX7_takesStreet 75 = .ok (.ifCond .ne 5, 3) := by decide +kernel
theorem dX7_takesStreet_78 : decode cX7_takesStreet 78 = .ok (.iconst 0, 1) := by decide +kernel
theorem dX7_takesStreet_79 : decode cX7_takesStreet 79 = .ok (.ireturn, 1) := by decide +kernel
theorem dX7_takesStreet_80 : decode cX7_takesStreet 80 = .ok (.aload_n 0, 1) := by decide +kernel
theorem dX7_takesStreet_81 : decode cX7_takesStreet 81 = .ok (.getfield 7, 3) := by decide +kernel
theorem dX7_takesStreet_84 : decode cX7_takesStreet 84 = .ok (.sipush 166, 3) := by decide +kernel
theorem dX7_takesStreet_87 : decode cX7_takesStreet 87 = .ok (.iload_n 1, 1) := by decide +kernel
theorem dX7_takesStreet_88 : decode cX7_takesStreet 88 = .ok (.iadd, 1) := by decide +kernel
theorem dX7_takesStreet_89 : decode cX7_takesStreet 89 = .ok (.aload_n 0, 1) := by decide +kernel
theorem dX7_takesStreet_90 : decode cX7_takesStreet 90 = .ok (.getfield 87, 3) := by decide +kernel
theorem dX7_takesStreet_93 : decode cX7_takesStreet 93 = .ok (.iastore, 1) := by decide +kernel
theorem dX7_takesStreet_94 : decode cX7_takesStreet 94 = .ok (.aload_n 0, 1) := by decide +kernel
theorem dX7_takesStreet_95 : decode cX7_takesStreet 95 = .ok (.bipush 44, 2) := by decide +kernel
theorem dX7_takesStreet_97 : decode cX7_takesStreet 97 = .ok (.invokevirtual 94, 3) := by decide +kernel
theorem dX7_takesStreet_100 : decode cX7_takesStreet 100 = .ok (.ifCond .eq 13, 3) := by decide +kernel
theorem dX7_takesStreet_103 : decode cX7_takesStreet 103 = .ok (.aload_n 0, 1) := by decide +kernel
theorem dX7_takesStreet_104 : decode cX7_takesStreet 104 = .ok (.iconst 0, 1) := by decide +kernel
theorem dX7_takesStreet_105 : decode cX7_takesStreet 105 = .ok (.bipush 60, 2) := by decide +kernel
theorem dX7_takesStreet_107 : decode cX7_takesStreet 107 = .ok (.invokevirtual 97, 3) := by decide +kernel
theorem dX7_takesStreet_110 : decode cX7_takesStreet 110 = .ok (.ifCond .ne 5, 3) := by decide +kernel
