theorem dX5_init_29 : decode cX5_init 29 = .ok (.bipush 8, 2) := by decide +kernel
theorem dX5_init_31 : decode cX5_init 31 = .ok (.newarray .int, 2) := by decide +kernel
theorem dX5_init_33 : decode cX5_init 33 = .ok (.putfield 19, 3) := by decide +kernel
theorem dX5_init_36 : decode cX5_init 36 = .ok (.return_, 1) := by decide +kernel
theorem dX5_clear_0 : decode cX5_clear 0 = .ok (.aload_n 0, 1) := by decide +kernel
theorem dX5_clear_1 : decode cX5_clear 1 = .ok (.iconst 0, 1) := by decide +kernel
theorem dX5_clear_2 : decode cX5_clear 2 = .ok (.putfield 22, 3) := by decide +kernel
theorem dX5_clear_5 : decode cX5_clear 5 = .ok (.aload_n 0, 1) := by decide +kernel
theorem dX5_clear_6 : decode cX5_clear 6 = .ok (.iconst 0, 1) := by decide +kernel
theorem dX5_clear_7 : decode cX5_clear 7 = .ok (.putfield 26, 3) := by decide +kernel
theorem dX5_clear_10 : decode cX5_clear 10 = .ok (.aload_n 0, 1) := by decide +kernel
theorem dX5_clear_11 : decode cX5_clear 11 = .ok (.iconst 0, 1) := by decide +kernel
theorem dX5_clear_12 : decode cX5_clear 12 = .ok (.putfield 29, 3) := by decide +kernel
theorem dX5_clear_15 : decode cX5_clear 15 = .ok (.aload_n 0, 1) := by decide +kernel
theorem dX5_clear_16 : decode cX5_clear 16 = .ok (.iconst 0, 1) := by decide +kernel
theorem dX5_clear_17 : decode cX5_clear 17 = .ok (.putfield 32, 3) := by decide +kernel
theorem dX5_clear_20 : decode cX5_clear 20 = .ok (.aload_n 0, 1) := by decide +kernel
theorem dX5_clear_21 : decode cX5_clear 21 = .ok (.iconst 0, 1) := by decide +kernel
theorem dX5_clear_22 : decode cX5_clear 22 = .ok (.putfield 35, 3) := by decide +kernel
theorem dX5_clear_25 : decode cX5_clear 25 = .ok (.aload_n 0, 1) := by decide +kernel
theorem dX5_clear_26 : decode cX5_clear 26 = .ok (.iconst 0, 1) := by decide +kernel
theorem dX5_clear_27 : decode cX5_clear 27 = .ok (.putfield 38, 3) := by decide +kernel
theorem dX5_clear_30 : decode cX5_clear 30 = .ok (.return_, 1) := by decide +kernel
theorem dX5_become_0 : decode cX5_become 0 = .ok (.aload_n 1, 1) := by decide +kernel
theorem dX5_become_1 : decode cX5_become 1 = .ok (.getfield 9, 3) := by decide +kernel
theorem dX5_become_4 : decode cX5_become 4 = .ok (.iconst 0, 1) := by decide +kernel
theorem dX5_become_5 : decode cX5_become 5 = .ok (.aload_n 0, 1) := by decide +kernel
theorem dX5_become_6 : decode cX5_become 6 = .ok (.getfield 9, 3) := by decide +kernel
theorem dX5_become_9 : decode cX5_become 9 = .ok (.iconst 0, 1) := by decide +kernel
theorem dX5_become_10 : decode cX5_become 10 = .ok (.bipush 8, 2) := by decide +kernel
theorem dX5_become_12 : decode cX5_become 12 = .ok (.invokestatic 41, 3) := by decide +kernel
theorem dX5_become_15 : decode cX5_become 15 = .ok (.aload_n 1, 1) := by decide +kernel
theorem dX5_become_16 : decode cX5_become 16 = .ok (.getfield 13, 3) := by decide +kernel
theorem dX5_become_19 : decode cX5_become 19 = .ok (.iconst 0, 1) := by decide +kernel
theorem dX5_become_20 : decode cX5_become 20 = .ok (.aload_n 0, 1) := by decide +kernel
theorem dX5_become_21 : decode cX5_become 21 = .ok (.getfield 13, 3) := by decide +kernel
theorem dX5_become_24 : decode cX5_become 24 = .ok (.iconst 0, 1) := by decide +kernel
theorem dX5_become_25 : decode cX5_become 25 = .ok (.bipush 8, 2) := by decide +kernel
theorem dX5_become_27 : decode cX5_become 27 = .ok (.invokestatic 41, 3) := by decide +kernel
theorem dX5_become_30 : decode cX5_become 30 = .ok (.aload_n 1, 1) := by decide +kernel
theorem dX5_become_31 : decode cX5_become 31 = .ok (.getfield 16, 3) := by decide +kernel
theorem dX5_become_34 : decode cX5_become 34 = .ok (.iconst 0, 1) := by decide +kernel
theorem dX5_become_35 : decode cX5_become 35 = .ok (.aload_n 0, 1) := by decide +kernel
theorem dX5_become_36 : decode cX5_become 36 = .ok (.getfield 16, 3) := by decide +kernel
theorem dX5_become_39 : decode cX5_become 39 = .ok (.iconst 0, 1) := by decide +kernel
theorem dX5_become_40 : decode cX5_become 40 = .ok (.bipush 8, 2) := by decide +kernel
theorem dX5_become_42 : decode cX5_become 42 = .ok (.invokestatic 41, 3) := by decide +kernel
theorem dX5_become_45 : decode cX5_become 45 = .ok (.aload_n 1, 1) := by decide +kernel
theorem dX5_become_46 : decode cX5_become 46 = .ok (.getfield 19, 3) := by decide +kernel
theorem dX5_become_49 : decode cX5_become 49 = .ok (.iconst 0, 1) := by decide +kernel
theorem dX5_become_50 : decode cX5_become 50 = .ok (.aload_n 0, 1) := by decide +kernel
theorem dX5_become_51 : decode cX5_become 51 = .ok (.getfield 19, 3) := by decide +kernel
theorem dX5_become_54 : decode cX5_become 54 = .ok (.iconst 0, 1) := by decide +kernel
theorem dX5_become_55 : decode cX5_become 55 = .ok (.bipush 8, 2) := by decide +kernel
theorem dX5_become_57 : decode cX5_become 57 = .ok (.invokestatic 41, 3) := by decide +kernel
theorem dX5_become_60 : decode cX5_become 60 = .ok (.aload_n 0, 1) := by decide +kernel
theorem dX5_become_61 : decode cX5_become 61 = .ok (.aload_n 1, 1) := by decide +kernel
theorem dX5_become_62 : decode cX5_become 62 = .ok (.getfield 22, 3) := by decide +kernel
theorem dX5_become_65 : decode cX5_become 65 = .ok (.putfield 22, 3) := by decide +kernel
theorem dX5_become_68 : decode cX5_become 68 = .ok (.aload_n 0, 1) := by decide +kernel
theorem dX5_become_69 : decode cX5_become 69 = .ok (.aload_n 1, 1) := by decide +kernel
theorem dX5_become_70 : decode cX5_become 70 = .ok (.getfield 26, 3) := by decide +kernel
theorem dX5_become_73 : decode cX5_become 73 = .ok (.putfield 26, 3) := by decide +kernel
theorem dX5_become_76 : decode cX5_become 76 = .ok (.aload_n 0, 1) := by decide +kernel
theorem dX5_become_77 : decode cX5_become 77 = .ok (.aload_n 1, 1) := by decide +kernel
theorem dX5_become_78 : decode cX5_become 78 = .ok (.getfield 29, 3) := by decide +kernel
theorem dX5_become_81 : decode cX5_become 81 = .ok (.putfield 29, 3) := by decide +kernel
theorem dX5_become_84 : decode cX5_become 84 = .ok (.aload_n 0, 1) := by decide +kernel
theorem dX5_become_85 : decode cX5_become 85 = .ok (.aload_n 1, 1) := by decide +kernel
theorem dX5_become_86 : decode cX5_become 86 = .ok (.getfield 32, 3) := by decide +kernel
theorem dX5_become_89 : decode cX5_become 89 = .ok (.putfield 32, 3) := by decide +kernel
theorem dX5_become_92 : decode cX5_become 92 = .ok (.aload_n 0, 1) := by decide +kernel
theorem dX5_become_93 : decode cX5_become 93 = .ok (.aload_n 1, 1) := by decide +kernel
theorem dX5_become_94 : decode cX5_become 94 = .ok (.getfield 35, 3) := by decide +kernel
theorem dX5_become_97 : decode cX5_become 97 = .ok (.putfield 35, 3) := by decide +kernel
theorem dX5_become_100 : decode cX5_become 100 = .ok (.aload_n 0, 1) := by decide +kernel
theorem dX5_become_101 : decode cX5_become 101 = .ok (.aload_n 1, 1) := by decide +kernel
theorem dX5_become_102 : decode cX5_become 102 = .ok (.getfield 38, 3) := by decide +kernel
theorem dX5_become_105 : decode cX5_become 105 = .ok (.putfield 38, 3) := by decide +kernel
theorem dX5_become_108 : decode cX5_become 108 = .ok (.return_, 1) := by decide +kernel
theorem dX5_hasStreet_0 : decode cX5_hasStreet 0 = .ok (.iload_n 1, 1) := by decide +kernel
theorem dX5_hasStreet_1 : decode cX5_hasStreet 1 = .ok (.ifCond .lt 15, 3) := by decide +kernel
theorem dX5_hasStreet_4 : decode cX5_hasStreet 4 = .ok (.iload_n 1, 1) := by decide +kernel
theorem dX5_hasStreet_5 : decode cX5_hasStreet 5 = .ok (.aload_n 0, 1) := by decide +kernel
theorem dX5_hasStreet_6 : decode cX5_hasStreet 6 = .ok (.getfield 22, 3) := by decide +kernel
theorem dX5_hasStreet_9 : decode cX5_hasStreet 9 = .ok (.if_icmp .ge 7, 3) := by decide +kernel
theorem dX5_hasStreet_12 : decode cX5_hasStreet 12 = .ok (.iconst 1, 1) := by decide +kernel
theorem dX5_hasStreet_13 : decode cX5_hasStreet 13 = .ok (.goto 4, 3) := by decide +kernel
theorem dX5_hasStreet_16 : decode cX5_hasStreet 16 = .ok (.iconst 0, 1) := by decide +kernel
theorem dX5_hasStreet_17 : decode cX5_hasStreet 17 = .ok (.ireturn, 1) := by decide +kernel
theorem dX5_hasBeat_0 : decode cX5_hasBeat 0 = .ok (.iload_n 1, 1) := by decide +kernel
theorem dX5_hasBeat_1 : decode cX5_hasBeat 1 = .ok (.ifCond .lt 15, 3) := by decide +kernel
theorem dX5_hasBeat_4 : decode cX5_hasBeat 4 = .ok (.iload_n 1, 1) := by decide +kernel
theorem dX5_hasBeat_5 : decode cX5_hasBeat 5 = .ok (.aload_n 0, 1) := by decide +kernel
theorem dX5_hasBeat_6 : decode cX5_hasBeat 6 = .ok (.getfield 26, 3) := by decide +kernel
theorem dX5_hasBeat_9 : decode cX5_hasBeat 9 = .ok (.if_icmp .ge 7, 3) := by decide +kernel
theorem dX5_hasBeat_12 : decode cX5_hasBeat 12 = .ok (.iconst 1, 1) := by decide +kernel
theorem dX5_hasBeat_13 : decode cX5_hasBeat 13 = .ok (.goto 4, 3) := by decide +kernel
theorem dX5_hasBeat_16 : decode cX5_hasBeat 16 = .ok (.iconst 0, 1) := by decide +kernel
theorem dX5_hasBeat_17 : decode cX5_hasBeat 17 = .ok (.ireturn, 1) := by decide +kernel
theorem dX5_allStreets_0 : decode cX5_allStreets 0 = .ok (.iconst 1, 1) := by decide +kernel
theorem dX5_allStreets_1 : decode cX5_allStreets 1 = .ok (.aload_n 0, 1) := by decide +kernel
theorem dX5_allStreets_2 : decode cX5_allStreets 2 = .ok (.getfield 22, 3) := by decide +kernel
theorem dX5_allStreets_5 : decode cX5_allStreets 5 = .ok (.ishl, 1) := by decide +kernel
theorem dX5_allStreets_6 : decode cX5_allStreets 6 = .ok (.iconst 1, 1) := by decide +kernel
theorem dX5_allStreets_7 : decode cX5_allStreets 7 = .ok (.isub, 1) := by decide +kernel
theorem dX5_allStreets_8 : decode cX5_allStreets 8 = .ok (.ireturn, 1) := by decide +kernel
theorem dX5_beatNow_0 : decode cX5_beatNow 0 = .ok (.aload_n 0, 1) := by decide +kernel
theorem dX5_beatNow_1 : decode cX5_beatNow 1 = .ok (.getfield 26, 3) := by decide +kernel
theorem dX5_beatNow_4 : decode cX5_beatNow 4 = .ok (.iconst 1, 1) := by decide +kernel
theorem dX5_beatNow_5 : decode cX5_beatNow 5 = .ok (.if_icmp .ge 7, 3) := by decide +kernel
theorem dX5_beatNow_8 : decode cX5_beatNow 8 = .ok (.iconst 0, 1) := by decide +kernel
theorem dX5_beatNow_9 : decode cX5_beatNow 9 = .ok (.goto 12, 3) := by decide +kernel
theorem dX5_beatNow_12 : decode cX5_beatNow 12 = .ok (.aload_n 0, 1) := by decide +kernel
theorem dX5_beatNow_13 : decode cX5_beatNow 13 = .ok (.getfield 35, 3) := by decide +kernel
theorem dX5_beatNow_16 : decode cX5_beatNow 16 = .ok (.aload_n 0, 1) := by decide +kernel
theorem dX5_beatNow_17 : decode cX5_beatNow 17 = .ok (.getfield 26, 3) := by decide +kernel
theorem dX5_beatNow_20 : decode cX5_beatNow 20 = .ok (.irem, 1) := by decide +kernel
theorem dX5_beatNow_21 : decode cX5_beatNow 21 = .ok (.ireturn, 1) := by decide +kernel
theorem dX5_hears_0 : decode cX5_hears 0 = .ok (.aload_n 0, 1) := by decide +kernel
theorem dX5_hears_1 : decode cX5_hears 1 = .ok (.iload_n 1, 1) := by decide +kernel
theorem dX5_hears_2 : decode cX5_hears 2 = .ok (.aload_n 0, 1) := by decide +kernel
theorem dX5_hears_3 : decode cX5_hears 3 = .ok (.getfield 19, 3) := by decide +kernel
theorem dX5_hears_6 : decode cX5_hears 6 = .ok (.aload_n 0, 1) := by decide +kernel
theorem dX5_hears_7 : decode cX5_hears 7 = .ok (.invokevirtual 47, 3) := by decide +kernel
theorem dX5_hears_10 : decode cX5_hears 10 = .ok (.iaload, 1) := by decide +kernel
theorem dX5_hears_11 : decode cX5_hears 11 = .ok (.invokevirtual 51, 3) := by decide +kernel
theorem dX5_hears_14 : decode cX5_hears 14 = .ok (.ireturn, 1) := by decide +kernel
theorem dX5_hearsFrom_0 : decode cX5_hearsFrom 0 = .ok (.iload_n 1, 1) := by decide +kernel
theorem dX5_hearsFrom_1 : decode cX5_hearsFrom 1 = .ok (.iload_n 2, 1) := by decide +kernel
theorem dX5_hearsFrom_2 : decode cX5_hearsFrom 2 = .ok (.isub, 1) := by decide +kernel
theorem dX5_hearsFrom_3 : decode cX5_hearsFrom 3 = .ok (.invokestatic 55, 3) := by decide +kernel
theorem dX5_hearsFrom_6 : decode cX5_hearsFrom 6 = .ok (.aload_n 0, 1) := by decide +kernel
theorem dX5_hearsFrom_7 : decode cX5_hearsFrom 7 = .ok (.getfield 29, 3) := by decide +kernel
theorem dX5_hearsFrom_10 : decode cX5_hearsFrom 10 = .ok (.if_icmp .gt 7, 3) := by decide +kernel
theorem dX5_hearsFrom_13 : decode cX5_hearsFrom 13 = .ok (.iconst 1, 1) := by decide +kernel
theorem dX5_hearsFrom_14 : decode cX5_hearsFrom 14 = .ok (.goto 4, 3) := by decide +kernel
theorem dX5_hearsFrom_17 : decode cX5_hearsFrom 17 = .ok (.iconst 0, 1) := by decide +kernel
theorem dX5_hearsFrom_18 : decode cX5_hearsFrom 18 = .ok (.ireturn, 1) := by decide +kernel
theorem dX5_awake_0 : decode cX5_awake 0 = .ok (.iconst 0, 1) := by decide +kernel
theorem dX5_awake_1 : decode cX5_awake 1 = .ok (.istore_n 1, 1) := by decide +kernel
theorem dX5_awake_2 : decode cX5_awake 2 = .ok (.iconst 0, 1) := by decide +kernel
theorem dX5_awake_3 : decode cX5_awake 3 = .ok (.istore_n 2, 1) := by decide +kernel
theorem dX5_awake_4 : decode cX5_awake 4 = .ok (.iload_n 2, 1) := by decide +kernel
theorem dX5_awake_5 : decode cX5_awake 5 = .ok (.aload_n 0, 1) := by decide +kernel
theorem dX5_awake_6 : decode cX5_awake 6 = .ok (.getfield 22, 3) := by decide +kernel
theorem dX5_awake_9 : decode cX5_awake 9 = .ok (.if_icmp .ge 28, 3) := by decide +kernel
theorem dX5_awake_12 : decode cX5_awake 12 = .ok (.iload_n 1, 1) := by decide +kernel
theorem dX5_awake_13 : decode cX5_awake 13 = .ok (.aload_n 0, 1) := by decide +kernel
theorem dX5_awake_14 : decode cX5_awake 14 = .ok (.getfield 13, 3) := by decide +kernel
theorem dX5_awake_17 : decode cX5_awake 17 = .ok (.iload_n 2, 1) := by decide +kernel
theorem dX5_awake_18 : decode cX5_awake 18 = .ok (.iaload, 1) := by decide +kernel
theorem dX5_awake_19 : decode cX5_awake 19 = .ok (.ifCond .ne 9, 3) := by decide +kernel
theorem dX5_awake_22 : decode cX5_awake 22 = .ok (.iconst 1, 1) := by decide +kernel
theorem dX5_awake_23 : decode cX5_awake 23 = .ok (.iload_n 2, 1) := by decide +kernel
theorem dX5_awake_24 : decode cX5_awake 24 = .ok (.ishl, 1) := by decide +kernel
theorem dX5_awake_25 : decode cX5_awake 25 = .ok (.goto 4, 3) := by decide +kernel
theorem dX5_awake_28 : decode cX5_awake 28 = .ok (.iconst 0, 1) := by decide +kernel
theorem dX5_awake_29 : decode cX5_awake 29 = .ok (.ior, 1) := by decide +kernel
theorem dX5_awake_30 : decode cX5_awake 30 = .ok (.istore_n 1, 1) := by decide +kernel
theorem dX5_awake_31 : decode cX5_awake 31 = .ok (.iinc 2 1, 3) := by decide +kernel
theorem dX5_awake_34 : decode cX5_awake 34 = .ok (.goto (-30), 3) := by decide +kernel
theorem dX5_awake_37 : decode cX5_awake 37 = .ok (.iload_n 1, 1) := by decide +kernel
theorem dX5_awake_38 : decode cX5_awake 38 = .ok (.ireturn, 1) := by decide +kernel
theorem dX5_passHour_0 : decode cX5_passHour 0 = .ok (.aload_n 0, 1) := by decide +kernel
theorem dX5_passHour_1 : decode cX5_passHour 1 = .ok (.getfield 19, 3) := by decide +kernel
theorem dX5_passHour_4 : decode cX5_passHour 4 = .ok (.aload_n 0, 1) := by decide +kernel
theorem dX5_passHour_5 : decode cX5_passHour 5 = .ok (.invokevirtual 47, 3) := by decide +kernel
theorem dX5_passHour_8 : decode cX5_passHour 8 = .ok (.iaload, 1) := by decide +kernel
theorem dX5_passHour_9 : decode cX5_passHour 9 = .ok (.istore_n 1, 1) := by decide +kernel
theorem dX5_passHour_10 : decode cX5_passHour 10 = .ok (.iconst 0, 1) := by decide +kernel
theorem dX5_passHour_11 : decode cX5_passHour 11 = .ok (.istore_n 2, 1) := by decide +kernel
theorem dX5_passHour_12 : decode cX5_passHour 12 = .ok (.iload_n 2, 1) := by decide +kernel
theorem dX5_passHour_13 : decode cX5_passHour 13 = .ok (.aload_n 0, 1) := by decide +kernel
theorem dX5_passHour_14 : decode cX5_passHour 14 = .ok (.getfield 22, 3) := by decide +kernel
theorem dX5_passHour_17 : decode cX5_passHour 17 = .ok (.if_icmp .ge 20, 3) := by decide +kernel
theorem dX5_passHour_20 : decode cX5_passHour 20 = .ok (.aload_n 0, 1) := by decide +kernel
theorem dX5_passHour_21 : decode cX5_passHour 21 = .ok (.iload_n 2, 1) := by decide +kernel
theorem dX5_passHour_22 : decode cX5_passHour 22 = .ok (.aload_n 0, 1) := by decide +kernel
theorem dX5_passHour_23 : decode cX5_passHour 23 = .ok (.iload_n 2, 1) := by decide +kernel
theorem dX5_passHour_24 : decode cX5_passHour 24 = .ok (.iload_n 1, 1) := by decide +kernel
theorem dX5_passHour_25 : decode cX5_passHour 25 = .ok (.invokevirtual 51, 3) := by decide +kernel
theorem dX5_passHour_28 : decode cX5_passHour 28 = .ok (.invokevirtual 61, 3) := by decide +kernel
theorem dX5_passHour_31 : decode cX5_passHour 31 = .ok (.iinc 2 1, 3) := by decide +kernel
theorem dX5_passHour_34 : decode cX5_passHour 34 = .ok (.goto (-22), 3) := by decide +kernel
theorem dX5_passHour_37 : decode cX5_passHour 37 = .ok (.aload_n 0, 1) := by decide +kernel
theorem dX5_passHour_38 : decode cX5_passHour 38 = .ok (.dup, 1) := by decide +kernel
theorem dX5_passHour_39 : decode cX5_passHour 39 = .ok (.getfield 35, 3) := by decide +kernel
theorem dX5_passHour_42 : decode cX5_passHour 42 = .ok (.iconst 1, 1) := by decide +kernel
theorem dX5_passHour_43 : decode cX5_passHour 43 = .ok (.iadd, 1) := by decide +kernel
theorem dX5_passHour_44 : decode cX5_passHour 44 = .ok (.putfield 35, 3) := by decide +kernel
theorem dX5_passHour_47 : decode cX5_passHour 47 = .ok (.return_, 1) := by decide +kernel
theorem dX5_passHours_0 : decode cX5_passHours 0 = .ok (.iconst 0, 1) := by decide +kernel
theorem dX5_passHours_1 : decode cX5_passHours 1 = .ok (.istore_n 2, 1) := by decide +kernel
theorem dX5_passHours_2 : decode cX5_passHours 2 = .ok (.iload_n 2, 1) := by decide +kernel
theorem dX5_passHours_3 : decode cX5_passHours 3 = .ok (.iload_n 1, 1) := by decide +kernel
theorem dX5_passHours_4 : decode cX5_passHours 4 = .ok (.if_icmp .ge 13, 3) := by decide +kernel
theorem dX5_passHours_7 : decode cX5_passHours 7 = .ok (.aload_n 0, 1) := by decide +kernel
theorem dX5_passHours_8 : decode cX5_passHours 8 = .ok (.invokevirtual 65, 3) := by decide +kernel
theorem dX5_passHours_11 : decode cX5_passHours 11 = .ok (.iinc 2 1, 3) := by decide +kernel
theorem dX5_passHours_14 : decode cX5_passHours 14 = .ok (.goto (-12), 3) := by decide +kernel
theorem dX5_passHours_17 : decode cX5_passHours 17 = .ok (.return_, 1) := by decide +kernel
theorem dX5_passHourFor_0 : decode cX5_passHourFor 0 = .ok (.aload_n 0, 1) := by decide +kernel
theorem dX5_passHourFor_1 : decode cX5_passHourFor 1 = .ok (.iload_n 1, 1) := by decide +kernel
theorem dX5_passHourFor_2 : decode cX5_passHourFor 2 = .ok (.aload_n 0, 1) := by decide +kernel
theorem dX5_passHourFor_3 : decode cX5_passHourFor 3 = .ok (.iload_n 1, 1) := by decide +kernel
theorem dX5_passHourFor_4 : decode cX5_passHourFor 4 = .ok (.invokevirtual 68, 3) := by decide +kernel
theorem dX5_passHourFor_7 : decode cX5_passHourFor 7 = .ok (.invokevirtual 61, 3) := by decide +kernel
theorem dX5_passHourFor_10 : decode cX5_passHourFor 10 = .ok (.aload_n 0, 1) := by decide +kernel
theorem dX5_passHourFor_11 : decode cX5_passHourFor 11 = .ok (.dup, 1) := by decide +kernel
theorem dX5_passHourFor_12 : decode cX5_passHourFor 12 = .ok (.getfield 35, 3) := by decide +kernel
theorem dX5_passHourFor_15 : decode cX5_passHourFor 15 = .ok (.iconst 1, 1) := by decide +kernel
theorem dX5_passHourFor_16 : decode cX5_passHourFor 16 = .ok (.iadd, 1) := by decide +kernel
theorem dX5_passHourFor_17 : decode cX5_passHourFor 17 = .ok (.putfield 35, 3) := by decide +kernel
theorem dX5_passHourFor_20 : decode cX5_passHourFor 20 = .ok (.return_, 1) := by decide +kernel
theorem dX5_passStreet_0 : decode cX5_passStreet 0 = .ok (.aload_n 0, 1) := by decide +kernel
theorem dX5_passStreet_1 : decode cX5_passStreet 1 = .ok (.getfield 13, 3) := by decide +kernel
theorem dX5_passStreet_4 : decode cX5_passStreet 4 = .ok (.iload_n 1, 1) := by decide +kernel
theorem dX5_passStreet_5 : decode cX5_passStreet 5 = .ok (.iaload, 1) := by decide +kernel
theorem dX5_passStreet_6 : decode cX5_passStreet 6 = .ok (.aload_n 0, 1) := by decide +kernel
theorem dX5_passStreet_7 : decode cX5_passStreet 7 = .ok (.getfield 16, 3) := by decide +kernel
theorem dX5_passStreet_10 : decode cX5_passStreet 10 = .ok (.iload_n 1, 1) := by decide +kernel
theorem dX5_passStreet_11 : decode cX5_passStreet 11 = .ok (.iaload, 1) := by decide +kernel
theorem dX5_passStreet_12 : decode cX5_passStreet 12 = .ok (.aload_n 0, 1) := by decide +kernel
theorem dX5_passStreet_13 : decode cX5_passStreet 13 = .ok (.getfield 32, 3) := by decide +kernel
theorem dX5_passStreet_16 : decode cX5_passStreet 16 = .ok (.iload_n 2, 1) := by decide +kernel
theorem dX5_passStreet_17 : decode cX5_passStreet 17 = .ok (.invokestatic 72, 3) := by decide +kernel
theorem dX5_passStreet_20 : decode cX5_passStreet 20 = .ok (.istore_n 3, 1) := by decide +kernel
theorem dX5_passStreet_21 : decode cX5_passStreet 21 = .ok (.aload_n 0, 1) := by decide +kernel
theorem dX5_passStreet_22 : decode cX5_passStreet 22 = .ok (.getfield 16, 3) := by decide +kernel
theorem dX5_passStreet_25 : decode cX5_passStreet 25 = .ok (.iload_n 1, 1) := by decide +kernel
theorem dX5_passStreet_26 : decode cX5_passStreet 26 = .ok (.dup2, 1) := by decide +kernel
theorem dX5_passStreet_27 : decode cX5_passStreet 27 = .ok (.iaload, 1) := by decide +kernel
theorem dX5_passStreet_28 : decode cX5_passStreet 28 = .ok (.iload_n 3, 1) := by decide +kernel
theorem dX5_passStreet_29 : decode cX5_passStreet 29 = .ok (.isub, 1) := by decide +kernel
theorem dX5_passStreet_30 : decode cX5_passStreet 30 = .ok (.iastore, 1) := by decide +kernel
theorem dX5_passStreet_31 : decode cX5_passStreet 31 = .ok (.aload_n 0, 1) := by decide +kernel
theorem dX5_passStreet_32 : decode cX5_passStreet 32 = .ok (.aload_n 0, 1) := by decide +kernel
theorem dX5_passStreet_33 : decode cX5_passStreet 33 = .ok (.getfield 38, 3) := by decide +kernel
theorem dX5_passStreet_36 : decode cX5_passStreet 36 = .ok (.iload_n 3, 1) := by decide +kernel
theorem dX5_passStreet_37 : decode cX5_passStreet 37 = .ok (.iadd, 1) := by decide +kernel
theorem dX5_passStreet_38 : decode cX5_passStreet 38 = .ok (.ldc 76, 2) := by decide +kernel
theorem dX5_passStreet_40 : decode cX5_passStreet 40 = .ok (.invokestatic 77, 3) := by decide +kernel
theorem dX5_passStreet_43 : decode cX5_passStreet 43 = .ok (.putfield 38, 3) := by decide +kernel
theorem dX5_passStreet_46 : decode cX5_passStreet 46 = .ok (.aload_n 0, 1) := by decide +kernel
theorem dX5_passStreet_47 : decode cX5_passStreet 47 = .ok (.getfield 13, 3) := by decide +kernel
theorem dX5_passStreet_50 : decode cX5_passStreet 50 = .ok (.iload_n 1, 1) := by decide +kernel
theorem dX5_passStreet_51 : decode cX5_passStreet 51 = .ok (.aload_n 0, 1) := by decide +kernel
theorem dX5_passStreet_52 : decode cX5_passStreet 52 = .ok (.getfield 9, 3) := by decide +kernel
theorem dX5_passStreet_55 : decode cX5_passStreet 55 = .ok (.iload_n 1, 1) := by decide +kernel
theorem dX5_passStreet_56 : decode cX5_passStreet 56 = .ok (.iaload, 1) := by decide +kernel
theorem dX5_passStreet_57 : decode cX5_passStreet 57 = .ok (.aload_n 0, 1) := by decide +kernel
theorem dX5_passStreet_58 : decode cX5_passStreet 58 = .ok (.getfield 13, 3) := by decide +kernel
theorem dX5_passStreet_61 : decode cX5_passStreet 61 = .ok (.iload_n 1, 1) := by decide +kernel
theorem dX5_passStreet_62 : decode cX5_passStreet 62 = .ok (.iaload, 1) := by decide +kernel
theorem dX5_passStreet_63 : decode cX5_passStreet 63 = .ok (.iload_n 2, 1) := by decide +kernel
theorem dX5_passStreet_64 : decode cX5_passStreet 64 = .ok (.aload_n 0, 1) := by decide +kernel
theorem dX5_passStreet_65 : decode cX5_passStreet 65 = .ok (.getfield 35, 3) := by decide +kernel
theorem dX5_passStreet_68 : decode cX5_passStreet 68 = .ok (.invokestatic 81, 3) := by decide +kernel
theorem dX5_passStreet_71 : decode cX5_passStreet 71 = .ok (.iastore, 1) := by decide +kernel
theorem dX5_passStreet_72 : decode cX5_passStreet 72 = .ok (.return_, 1) := by decide +kernel
theorem dX5_stolen_0 : decode cX5_stolen 0 = .ok (.iload_n 0, 1) := by decide +kernel
theorem dX5_stolen_1 : decode cX5_stolen 1 = .ok (.ifCond .eq 7, 3) := by decide +kernel
theorem dX5_stolen_4 : decode cX5_stolen 4 = .ok (.iload_n 3, 1) := by decide +kernel
theorem dX5_stolen_5 : decode cX5_stolen 5 = .ok (.ifCond .eq 7, 3) := by decide +kernel
theorem dX5_stolen_8 : decode cX5_stolen 8 = .ok (.iconst 0, 1) := by decide +kernel
theorem dX5_stolen_9 : decode cX5_stolen 9 = .ok (.goto 8, 3) := by decide +kernel
theorem dX5_stolen_12 : decode cX5_stolen 12 = .ok (.iload_n 1, 1) := by decide +kernel
theorem dX5_stolen_13 : decode cX5_stolen 13 = .ok (.iload_n 2, 1) := by decide +kernel
theorem dX5_stolen_14 : decode cX5_stolen 14 = .ok (.invokestatic 77, 3) := by decide +kernel
theorem dX5_stolen_17 : decode cX5_stolen 17 = .ok (.ireturn, 1) := by decide +kernel
theorem dX5_deepAfter_0 : decode cX5_deepAfter 0 = .ok (.iload_n 0, 1) := by decide +kernel
theorem dX5_deepAfter_1 : decode cX5_deepAfter 1 = .ok (.tableswitch 91 2 5 #[31, 55, 70, 76], 31) := by decide +kernel
theorem dX5_deepAfter_32 : decode cX5_deepAfter 32 = .ok (.iload_n 2, 1) := by decide +kernel
theorem dX5_deepAfter_33 : decode cX5_deepAfter 33 = .ok (.ifCond .ne 7, 3) := by decide +kernel
theorem dX5_deepAfter_36 : decode cX5_deepAfter 36 = .ok (.iconst (-1), 1) := by decide +kernel
theorem dX5_deepAfter_37 : decode cX5_deepAfter 37 = .ok (.goto 14, 3) := by decide +kernel
theorem dX5_deepAfter_40 : decode cX5_deepAfter 40 = .ok (.iload_n 3, 1) := by decide +kernel
theorem dX5_deepAfter_41 : decode cX5_deepAfter 41 = .ok (.iconst 4, 1) := by decide +kernel
theorem dX5_deepAfter_42 : decode cX5_deepAfter 42 = .ok (.irem, 1) := by decide +kernel
theorem dX5_deepAfter_43 : decode cX5_deepAfter 43 = .ok (.ifCond .ne 7, 3) := by decide +kernel
theorem dX5_deepAfter_46 : decode cX5_deepAfter 46 = .ok (.iconst 4, 1) := by decide +kernel
theorem dX5_deepAfter_47 : decode cX5_deepAfter 47 = .ok (.goto 4, 3) := by decide +kernel
theorem dX5_deepAfter_50 : decode cX5_deepAfter 50 = .ok (.iconst 2, 1) := by decide +kernel
theorem dX5_deepAfter_51 : decode cX5_deepAfter 51 = .ok (.istore 4, 2) := by decide +kernel
theorem dX5_deepAfter_53 : decode cX5_deepAfter 53 = .ok (.goto 50, 3) := by decide +kernel
theorem dX5_deepAfter_56 : decode cX5_deepAfter 56 = .ok (.iload_n 2, 1) := by decide +kernel
theorem dX5_deepAfter_57 : decode cX5_deepAfter 57 = .ok (.ifCond .eq 7, 3) := by decide +kernel
theorem dX5_deepAfter_60 : decode cX5_deepAfter 60 = .ok (.iconst 2, 1) := by decide +kernel
theorem dX5_deepAfter_61 : decode cX5_deepAfter 61 = .ok (.goto 5, 3) := by decide +kernel
theorem dX5_deepAfter_64 : decode cX5_deepAfter 64 = .ok (.bipush (-3), 2) := by decide +kernel
theorem dX5_deepAfter_66 : decode cX5_deepAfter 66 = .ok (.istore 4, 2) := by decide +kernel
theorem dX5_deepAfter_68 : decode cX5_deepAfter 68 = .ok (.goto 35, 3) := by decide +kernel
theorem dX5_deepAfter_71 : decode cX5_deepAfter 71 = .ok (.iconst (-1), 1) := by decide +kernel
theorem dX5_deepAfter_72 : decode cX5_deepAfter 72 = .ok (.istore 4, 2) := by decide +kernel
theorem dX5_deepAfter_74 : decode cX5_deepAfter 74 = .ok (.goto 29, 3) := by decide +kernel
theorem dX5_deepAfter_77 : decode cX5_deepAfter 77 = .ok (.iload_n 2, 1) := by decide +kernel
theorem dX5_deepAfter_78 : decode cX5_deepAfter 78 = .ok (.ifCond .eq 7, 3) := by decide +kernel
theorem dX5_deepAfter_81 : decode cX5_deepAfter 81 = .ok (.iconst (-1), 1) := by decide +kernel
theorem dX5_deepAfter_82 : decode cX5_deepAfter 82 = .ok (.goto 5, 3) := by decide +kernel
theorem dX5_deepAfter_85 : decode cX5_deepAfter 85 = .ok (.bipush (-20), 2) := by decide +kernel
theorem dX5_deepAfter_87 : decode cX5_deepAfter 87 = .ok (.istore 4, 2) := by decide +kernel
theorem dX5_deepAfter_89 : decode cX5_deepAfter 89 = .ok (.goto 14, 3) := by decide +kernel
theorem dX5_deepAfter_92 : decode cX5_deepAfter 92 = .ok (.iload_n 2, 1) := by decide +kernel
theorem dX5_deepAfter_93 : decode cX5_deepAfter 93 = .ok (.ifCond .eq 7, 3) := by decide +kernel
theorem dX5_deepAfter_96 : decode cX5_deepAfter 96 = .ok (.iconst 2, 1) := by decide +kernel
theorem dX5_deepAfter_97 : decode cX5_deepAfter 97 = .ok (.goto 4, 3) := by decide +kernel
theorem dX5_deepAfter_100 : decode cX5_deepAfter 100 = .ok (.iconst (-1), 1) := by decide +kernel
theorem dX5_deepAfter_101 : decode cX5_deepAfter 101 = .ok (.istore 4, 2) := by decide +kernel
theorem dX5_deepAfter_103 : decode cX5_deepAfter 103 = .ok (.iconst 0, 1) := by decide +kernel
theorem dX5_deepAfter_104 : decode cX5_deepAfter 104 = .ok (.iload_n 1, 1) := by decide +kernel
theorem dX5_deepAfter_105 : decode cX5_deepAfter 105 = .ok (.iload 4, 2) := by decide +kernel
theorem dX5_deepAfter_107 : decode cX5_deepAfter 107 = .ok (.iadd, 1) := by decide +kernel
theorem dX5_deepAfter_108 : decode cX5_deepAfter 108 = .ok (.bipush 20, 2) := by decide +kernel
theorem dX5_deepAfter_110 : decode cX5_deepAfter 110 = .ok (.invokestatic 77, 3) := by decide +kernel
theorem dX5_deepAfter_113 : decode cX5_deepAfter 113 = .ok (.invokestatic 85, 3) := by decide +kernel
theorem dX5_deepAfter_116 : decode cX5_deepAfter 116 = .ok (.ireturn, 1) := by decide +kernel
theorem dX5_taxOf_0 : decode cX5_taxOf 0 = .ok (.aload_n 0, 1) := by decide +kernel
theorem dX5_taxOf_1 : decode cX5_taxOf 1 = .ok (.invokevirtual 88, 3) := by decide +kernel
theorem dX5_taxOf_4 : decode cX5_taxOf 4 = .ok (.istore_n 3, 1) := by decide +kernel
theorem dX5_taxOf_5 : decode cX5_taxOf 5 = .ok (.iload_n 3, 1) := by decide +kernel
theorem dX5_taxOf_6 : decode cX5_taxOf 6 = .ok (.iconst 1, 1) := by decide +kernel
theorem dX5_taxOf_7 : decode cX5_taxOf 7 = .ok (.if_icmp .lt 12, 3) := by decide +kernel
theorem dX5_taxOf_10 : decode cX5_taxOf 10 = .ok (.aload_n 0, 1) := by decide +kernel
theorem dX5_taxOf_11 : decode cX5_taxOf 11 = .ok (.getfield 16, 3) := by decide +kernel
theorem dX5_taxOf_14 : decode cX5_taxOf 14 = .ok (.iload_n 1, 1) := by decide +kernel
theorem dX5_taxOf_15 : decode cX5_taxOf 15 = .ok (.iaload, 1) := by decide +kernel
theorem dX5_taxOf_16 : decode cX5_taxOf 16 = .ok (.ifCond .ne 5, 3) := by decide +kernel
theorem dX5_taxOf_19 : decode cX5_taxOf 19 = .ok (.iconst 0, 1) := by decide +kernel
theorem dX5_taxOf_20 : decode cX5_taxOf 20 = .ok (.ireturn, 1) := by decide +kernel
theorem dX5_taxOf_21 : decode cX5_taxOf 21 = .ok (.iload_n 2, 1) := by decide +kernel
theorem dX5_taxOf_22 : decode cX5_taxOf 22 = .ok (.istore 4, 2) := by decide +kernel
theorem dX5_taxOf_24 : decode cX5_taxOf 24 = .ok (.iconst 0, 1) := by decide +kernel
theorem dX5_taxOf_25 : decode cX5_taxOf 25 = .ok (.istore 5, 2) := by decide +kernel
theorem dX5_taxOf_27 : decode cX5_taxOf 27 = .ok (.iconst 0, 1) := by decide +kernel
theorem dX5_taxOf_28 : decode cX5_taxOf 28 = .ok (.istore 6, 2) := by decide +kernel
theorem dX5_taxOf_30 : decode cX5_taxOf 30 = .ok (.iload 6, 2) := by decide +kernel
theorem dX5_taxOf_32 : decode cX5_taxOf 32 = .ok (.aload_n 0, 1) := by decide +kernel
theorem dX5_taxOf_33 : decode cX5_taxOf 33 = .ok (.getfield 22, 3) := by decide +kernel
theorem dX5_taxOf_36 : decode cX5_taxOf 36 = .ok (.if_icmp .ge 51, 3) := by decide +kernel
theorem dX5_taxOf_39 : decode cX5_taxOf 39 = .ok (.iload 4, 2) := by decide +kernel
theorem dX5_taxOf_41 : decode cX5_taxOf 41 = .ok (.iload_n 2, 1) := by decide +kernel
theorem dX5_taxOf_42 : decode cX5_taxOf 42 = .ok (.aload_n 0, 1) := by decide +kernel
theorem dX5_taxOf_43 : decode cX5_taxOf 43 = .ok (.getfield 16, 3) := by decide +kernel
theorem dX5_taxOf_46 : decode cX5_taxOf 46 = .ok (.iload 6, 2) := by decide +kernel
theorem dX5_taxOf_48 : decode cX5_taxOf 48 = .ok (.iaload, 1) := by decide +kernel
theorem dX5_taxOf_49 : decode cX5_taxOf 49 = .ok (.imul, 1) := by decide +kernel
theorem dX5_taxOf_50 : decode cX5_taxOf 50 = .ok (.iload_n 3, 1) := by decide +kernel
theorem dX5_taxOf_51 : decode cX5_taxOf 51 = .ok (.idiv, 1) := by decide +kernel
theorem dX5_taxOf_52 : decode cX5_taxOf 52 = .ok (.isub, 1) := by decide +kernel
theorem dX5_taxOf_53 : decode cX5_taxOf 53 = .ok (.istore 4, 2) := by decide +kernel
theorem dX5_taxOf_55 : decode cX5_taxOf 55 = .ok (.iload 5, 2) := by decide +kernel
theorem dX5_taxOf_57 : decode cX5_taxOf 57 = .ok (.iload 6, 2) := by decide +kernel
theorem dX5_taxOf_59 : decode cX5_taxOf 59 = .ok (.iload_n 1, 1) := by decide +kernel
theorem dX5_taxOf_60 : decode cX5_taxOf 60 = .ok (.if_icmp .ge 17, 3) := by decide +kernel
theorem dX5_taxOf_63 : decode cX5_taxOf 63 = .ok (.aload_n 0, 1) := by decide +kernel
theorem dX5_taxOf_64 : decode cX5_taxOf 64 = .ok (.getfield 16, 3) := by decide +kernel
theorem dX5_taxOf_67 : decode cX5_taxOf 67 = .ok (.iload 6, 2) := by decide +kernel
theorem dX5_taxOf_69 : decode cX5_taxOf 69 = .ok (.iaload, 1) := by decide +kernel
theorem dX5_taxOf_70 : decode cX5_taxOf 70 = .ok (.ifCond .le 7, 3) := by decide +kernel
theorem dX5_taxOf_73 : decode cX5_taxOf 73 = .ok (.iconst 1, 1) := by decide +kernel
theorem dX5_taxOf_74 : decode cX5_taxOf 74 = .ok (.goto 4, 3) := by decide +kernel
theorem dX5_taxOf_77 : decode cX5_taxOf 77 = .ok (.iconst 0, 1) := by decide +kernel
theorem dX5_taxOf_78 : decode cX5_taxOf 78 = .ok (.iadd, 1) := by decide +kernel
theorem dX5_taxOf_79 : decode cX5_taxOf 79 = .ok (.istore 5, 2) := by decide +kernel
theorem dX5_taxOf_81 : decode cX5_taxOf 81 = .ok (.iinc 6 1, 3) := by decide +kernel
theorem dX5_taxOf_84 : decode cX5_taxOf 84 = .ok (.goto (-54), 3) := by decide +kernel
theorem dX5_taxOf_87 : decode cX5_taxOf 87 = .ok (.iload_n 2, 1) := by decide +kernel
theorem dX5_taxOf_88 : decode cX5_taxOf 88 = .ok (.aload_n 0, 1) := by decide +kernel
theorem dX5_taxOf_89 : decode cX5_taxOf 89 = .ok (.getfield 16, 3) := by decide +kernel
theorem dX5_taxOf_92 : decode cX5_taxOf 92 = .ok (.iload_n 1, 1) := by decide +kernel
theorem dX5_taxOf_93 : decode cX5_taxOf 93 = .ok (.iaload, 1) := by decide +kernel
theorem dX5_taxOf_94 : decode cX5_taxOf 94 = .ok (.imul, 1) := by decide +kernel
theorem dX5_taxOf_95 : decode cX5_taxOf 95 = .ok (.iload_n 3, 1) := by decide +kernel
theorem dX5_taxOf_96 : decode cX5_taxOf 96 = .ok (.idiv, 1) := by decide +kernel
theorem dX5_taxOf_97 : decode cX5_taxOf 97 = .ok (.iload 5, 2) := by decide +kernel
theorem dX5_taxOf_99 : decode cX5_taxOf 99 = .ok (.iload 4, 2) := by decide +kernel
theorem dX5_taxOf_101 : decode cX5_taxOf 101 = .ok (.if_icmp .ge 7, 3) := by decide +kernel
theorem dX5_taxOf_104 : decode cX5_taxOf 104 = .ok (.iconst 1, 1) := by decide +kernel
theorem dX5_taxOf_105 : decode cX5_taxOf 105 = .ok (.goto 4, 3) := by decide +kernel
theorem dX5_taxOf_108 : decode cX5_taxOf 108 = .ok (.iconst 0, 1) := by decide +kernel
theorem dX5_taxOf_109 : decode cX5_taxOf 109 = .ok (.iadd, 1) := by decide +kernel
theorem dX5_taxOf_110 : decode cX5_taxOf 110 = .ok (.ireturn, 1) := by decide +kernel
theorem dX5_lootOfAll_0 : decode cX5_lootOfAll 0 = .ok (.iconst 0, 1) := by decide +kernel
theorem dX5_lootOfAll_1 : decode cX5_lootOfAll 1 = .ok (.istore_n 1, 1) := by decide +kernel
theorem dX5_lootOfAll_2 : decode cX5_lootOfAll 2 = .ok (.iconst 0, 1) := by decide +kernel
theorem dX5_lootOfAll_3 : decode cX5_lootOfAll 3 = .ok (.istore_n 2, 1) := by decide +kernel
theorem dX5_lootOfAll_4 : decode cX5_lootOfAll 4 = .ok (.iload_n 2, 1) := by decide +kernel
theorem dX5_lootOfAll_5 : decode cX5_lootOfAll 5 = .ok (.aload_n 0, 1) := by decide +kernel
theorem dX5_lootOfAll_6 : decode cX5_lootOfAll 6 = .ok (.getfield 22, 3) := by decide +kernel
theorem dX5_lootOfAll_9 : decode cX5_lootOfAll 9 = .ok (.if_icmp .ge 18, 3) := by decide +kernel
theorem dX5_lootOfAll_12 : decode cX5_lootOfAll 12 = .ok (.iload_n 1, 1) := by decide +kernel
theorem dX5_lootOfAll_13 : decode cX5_lootOfAll 13 = .ok (.aload_n 0, 1) := by decide +kernel
theorem dX5_lootOfAll_14 : decode cX5_lootOfAll 14 = .ok (.getfield 16, 3) := by decide +kernel
theorem dX5_lootOfAll_17 : decode cX5_lootOfAll 17 = .ok (.iload_n 2, 1) := by decide +kernel
theorem dX5_lootOfAll_18 : decode cX5_lootOfAll 18 = .ok (.iaload, 1) := by decide +kernel
theorem dX5_lootOfAll_19 : decode cX5_lootOfAll 19 = .ok (.iadd, 1) := by decide +kernel
theorem dX5_lootOfAll_20 : decode cX5_lootOfAll 20 = .ok (.istore_n 1, 1) := by decide +kernel
theorem dX5_lootOfAll_21 : decode cX5_lootOfAll 21 = .ok (.iinc 2 1, 3) := by decide +kernel
theorem dX5_lootOfAll_24 : decode cX5_lootOfAll 24 = .ok (.goto (-20), 3) := by decide +kernel
theorem dX5_lootOfAll_27 : decode cX5_lootOfAll 27 = .ok (.iload_n 1, 1) := by decide +kernel
theorem dX5_lootOfAll_28 : decode cX5_lootOfAll 28 = .ok (.ireturn, 1) := by decide +kernel
theorem dX6_init_0 : decode cX6_init 0 = .ok (.aload_n 0, 1) := by decide +kernel
theorem dX6_init_1 : decode cX6_init 1 = .ok (.invokespecial 1, 3) := by decide +kernel
theorem dX6_init_4 : decode cX6_init 4 = .ok (.aload_n 0, 1) := by decide +kernel
theorem dX6_init_5 : decode cX6_init 5 = .ok (.new 7, 3) := by decide +kernel
theorem dX6_init_8 : decode cX6_init 8 = .ok (.dup, 1) := by decide +kernel
theorem dX6_init_9 : decode cX6_init 9 = .ok (.invokespecial 9, 3) := by decide +kernel
theorem dX6_init_12 : decode cX6_init 12 = .ok (.putfield 10, 3) := by decide +kernel
theorem dX6_init_15 : decode cX6_init 15 = .ok (.aload_n 0, 1) := by decide +kernel
theorem dX6_init_16 : decode cX6_init 16 = .ok (.new 16, 3) := by decide +kernel
theorem dX6_init_19 : decode cX6_init 19 = .ok (.dup, 1) := by decide +kernel
theorem dX6_init_20 : decode cX6_init 20 = .ok (.invokespecial 18, 3) := by decide +kernel
theorem dX6_init_23 : decode cX6_init 23 = .ok (.putfield 19, 3) := by decide +kernel
theorem dX6_init_26 : decode cX6_init 26 = .ok (.aload_n 0, 1) := by decide +kernel
theorem dX6_init_27 : decode cX6_init 27 = .ok (.new 23, 3) := by decide +kernel
theorem dX6_init_30 : decode cX6_init 30 = .ok (.dup, 1) := by decide +kernel
theorem dX6_init_31 : decode cX6_init 31 = .ok (.invokespecial 25, 3) := by decide +kernel
theorem dX6_init_34 : decode cX6_init 34 = .ok (.putfield 26, 3) := by decide +kernel
theorem dX6_init_37 : decode cX6_init 37 = .ok (.aload_n 0, 1) := by decide +kernel
theorem dX6_init_38 : decode cX6_init 38 = .ok (.new 23, 3) := by decide +kernel
theorem dX6_init_41 : decode cX6_init 41 = .ok (.dup, 1) := by decide +kernel
theorem dX6_init_42 : decode cX6_init 42 = .ok (.invokespecial 25, 3) := by decide +kernel
theorem dX6_init_45 : decode cX6_init 45 = .ok (.putfield 30, 3) := by decide +kernel
theorem dX6_init_48 : decode cX6_init 48 = .ok (.aload_n 0, 1) := by decide +kernel
theorem dX6_init_49 : decode cX6_init 49 = .ok (.new 23, 3) := by decide +kernel
theorem dX6_init_52 : decode cX6_init 52 = .ok (.dup, 1) := by decide +kernel
theorem dX6_init_53 : decode cX6_init 53 = .ok (.invokespecial 25, 3) := by decide +kernel
theorem dX6_init_56 : decode cX6_init 56 = .ok (.putfield 33, 3) := by decide +kernel
theorem dX6_init_59 : decode cX6_init 59 = .ok (.aload_n 0, 1) := by decide +kernel
theorem dX6_init_60 : decode cX6_init 60 = .ok (.new 23, 3) := by decide +kernel
theorem dX6_init_63 : decode cX6_init 63 = .ok (.dup, 1) := by decide +kernel
theorem dX6_init_64 : decode cX6_init 64 = .ok (.invokespecial 25, 3) := by decide +kernel
theorem dX6_init_67 : decode cX6_init 67 = .ok (.putfield 36, 3) := by decide +kernel
theorem dX6_init_70 : decode cX6_init 70 = .ok (.aload_n 0, 1) := by decide +kernel
theorem dX6_init_71 : decode cX6_init 71 = .ok (.new 39, 3) := by decide +kernel
theorem dX6_init_74 : decode cX6_init 74 = .ok (.dup, 1) := by decide +kernel
theorem dX6_init_75 : decode cX6_init 75 = .ok (.invokespecial 41, 3) := by decide +kernel
theorem dX6_init_78 : decode cX6_init 78 = .ok (.putfield 42, 3) := by decide +kernel
theorem dX6_init_81 : decode cX6_init 81 = .ok (.aload_n 0, 1) := by decide +kernel
theorem dX6_init_82 : decode cX6_init 82 = .ok (.new 46, 3) := by decide +kernel
theorem dX6_init_85 : decode cX6_init 85 = .ok (.dup, 1) := by decide +kernel
theorem dX6_init_86 : decode cX6_init 86 = .ok (.invokespecial 48, 3) := by decide +kernel
theorem dX6_init_89 : decode cX6_init 89 = .ok (.putfield 49, 3) := by decide +kernel
theorem dX6_init_92 : decode cX6_init 92 = .ok (.aload_n 0, 1) := by decide +kernel
theorem dX6_init_93 : decode cX6_init 93 = .ok (.new 53, 3) := by decide +kernel
theorem dX6_init_96 : decode cX6_init 96 = .ok (.dup, 1) := by decide +kernel
theorem dX6_init_97 : decode cX6_init 97 = .ok (.invokespecial 55, 3) := by decide +kernel
theorem dX6_init_100 : decode cX6_init 100 = .ok (.putfield 56, 3) := by decide +kernel
theorem dX6_init_103 : decode cX6_init 103 = .ok (.return_, 1) := by decide +kernel
theorem dX6_row_0 : decode cX6_row 0 = .ok (.iload_n 1, 1) := by decide +kernel
theorem dX6_row_1 : decode cX6_row 1 = .ok (.invokestatic 60, 3) := by decide +kernel
theorem dX6_row_4 : decode cX6_row 4 = .ok (.ifCond .eq 18, 3) := by decide +kernel
theorem dX6_row_7 : decode cX6_row 7 = .ok (.iload_n 2, 1) := by decide +kernel
theorem dX6_row_8 : decode cX6_row 8 = .ok (.ifCond .lt 14, 3) := by decide +kernel
theorem dX6_row_11 : decode cX6_row 11 = .ok (.iload_n 2, 1) := by decide +kernel
theorem dX6_row_12 : decode cX6_row 12 = .ok (.iconst 2, 1) := by decide +kernel
theorem dX6_row_13 : decode cX6_row 13 = .ok (.if_icmp .gt 9, 3) := by decide +kernel
theorem dX6_row_16 : decode cX6_row 16 = .ok (.iload_n 3, 1) := by decide +kernel
theorem dX6_row_17 : decode cX6_row 17 = .ok (.bipush 40, 2) := by decide +kernel
theorem dX6_row_19 : decode cX6_row 19 = .ok (.if_icmp .le 6, 3) := by decide +kernel
theorem dX6_row_22 : decode cX6_row 22 = .ok (.ldc 64, 2) := by decide +kernel
theorem dX6_row_24 : decode cX6_row 24 = .ok (.ireturn, 1) := by decide +kernel
theorem dX6_row_25 : decode cX6_row 25 = .ok (.iload_n 3, 1) := by decide +kernel
theorem dX6_row_26 : decode cX6_row 26 = .ok (.ifCond .ge 9, 3) := by decide +kernel
theorem dX6_row_29 : decode cX6_row 29 = .ok (.aload_n 0, 1) := by decide +kernel
theorem dX6_row_30 : decode cX6_row 30 = .ok (.iconst 4, 1) := by decide +kernel
theorem dX6_row_31 : decode cX6_row 31 = .ok (.invokevirtual 65, 3) := by decide +kernel
theorem dX6_row_34 : decode cX6_row 34 = .ok (.ireturn, 1) := by decide +kernel
theorem dX6_row_35 : decode cX6_row 35 = .ok (.aload_n 0, 1) := by decide +kernel
theorem dX6_row_36 : decode cX6_row 36 = .ok (.getfield 10, 3) := by decide +kernel
theorem dX6_row_39 : decode cX6_row 39 = .ok (.iload_n 1, 1) := by decide +kernel
theorem dX6_row_40 : decode cX6_row 40 = .ok (.iload_n 2, 1) := by decide +kernel
theorem dX6_row_41 : decode cX6_row 41 = .ok (.iload_n 3, 1) := by decide +kernel
theorem dX6_row_42 : decode cX6_row 42 = .ok (.invokevirtual 69, 3) := by decide +kernel
theorem dX6_row_45 : decode cX6_row 45 = .ok (.aload_n 0, 1) := by decide +kernel
theorem dX6_row_46 : decode cX6_row 46 = .ok (.iload_n 3, 1) := by decide +kernel
theorem dX6_row_47 : decode cX6_row 47 = .ok (.invokevirtual 73, 3) := by decide +kernel
theorem dX6_row_50 : decode cX6_row 50 = .ok (.ireturn, 1) := by decide +kernel
theorem dX6_set_0 : decode cX6_set 0 = .ok (.iload_n 1, 1) := by decide +kernel
theorem dX6_set_1 : decode cX6_set 1 = .ok (.invokestatic 60, 3) := by decide +kernel
theorem dX6_set_4 : decode cX6_set 4 = .ok (.ifCond .ne 6, 3) := by decide +kernel
theorem dX6_set_7 : decode cX6_set 7 = .ok (.ldc 64, 2) := by decide +kernel
theorem dX6_set_9 : decode cX6_set 9 = .ok (.ireturn, 1) := by decide +kernel
theorem dX6_set_10 : decode cX6_set 10 = .ok (.aload_n 0, 1) := by decide +kernel
theorem dX6_set_11 : decode cX6_set 11 = .ok (.getfield 10, 3) := by decide +kernel
theorem dX6_set_14 : decode cX6_set 14 = .ok (.iload_n 1, 1) := by decide +kernel
theorem dX6_set_15 : decode cX6_set 15 = .ok (.invokevirtual 76, 3) := by decide +kernel
theorem dX6_set_18 : decode cX6_set 18 = .ok (.ifCond .eq 9, 3) := by decide +kernel
theorem dX6_set_21 : decode cX6_set 21 = .ok (.aload_n 0, 1) := by decide +kernel
theorem dX6_set_22 : decode cX6_set 22 = .ok (.iconst 1, 1) := by decide +kernel
theorem dX6_set_23 : decode cX6_set 23 = .ok (.invokevirtual 65, 3) := by decide +kernel
theorem dX6_set_26 : decode cX6_set 26 = .ok (.ireturn, 1) := by decide +kernel
theorem dX6_set_27 : decode cX6_set 27 = .ok (.aload_n 0, 1) := by decide +kernel
theorem dX6_set_28 : decode cX6_set 28 = .ok (.getfield 10, 3) := by decide +kernel
theorem dX6_set_31 : decode cX6_set 31 = .ok (.iload_n 1, 1) := by decide +kernel
theorem dX6_set_32 : decode cX6_set 32 = .ok (.iload_n 2, 1) := by decide +kernel
theorem dX6_set_33 : decode cX6_set 33 = .ok (.iconst 1, 1) := by decide +kernel
theorem dX6_set_34 : decode cX6_set 34 = .ok (.invokevirtual 79, 3) := by decide +kernel
theorem dX6_set_37 : decode cX6_set 37 = .ok (.ifCond .ne 9, 3) := by decide +kernel
theorem dX6_set_40 : decode cX6_set 40 = .ok (.aload_n 0, 1) := by decide +kernel
theorem dX6_set_41 : decode cX6_set 41 = .ok (.iconst 2, 1) := by decide +kernel
theorem dX6_set_42 : decode cX6_set 42 = .ok (.invokevirtual 65, 3) := by decide +kernel
theorem dX6_set_45 : decode cX6_set 45 = .ok (.ireturn, 1) := by decide +kernel
theorem dX6_set_46 : decode cX6_set 46 = .ok (.aload_n 0, 1) := by decide +kernel
theorem dX6_set_47 : decode cX6_set 47 = .ok (.aload_n 0, 1) := by decide +kernel
theorem dX6_set_48 : decode cX6_set 48 = .ok (.getfield 10, 3) := by decide +kernel
theorem dX6_set_51 : decode cX6_set 51 = .ok (.iload_n 1, 1) := by decide +kernel
theorem dX6_set_52 : decode cX6_set 52 = .ok (.iload_n 2, 1) := by decide +kernel
theorem dX6_set_53 : decode cX6_set 53 = .ok (.iload_n 3, 1) := by decide +kernel
theorem dX6_set_54 : decode cX6_set 54 = .ok (.invokevirtual 83, 3) := by decide +kernel
theorem dX6_set_57 : decode cX6_set 57 = .ok (.invokevirtual 73, 3) := by decide +kernel
theorem dX6_set_60 : decode cX6_set 60 = .ok (.ireturn, 1) := by decide +kernel
theorem dX6_copy_0 : decode cX6_copy 0 = .ok (.iload_n 1, 1) := by decide +kernel
theorem dX6_copy_1 : decode cX6_copy 1 = .ok (.invokestatic 60, 3) := by decide +kernel
theorem dX6_copy_4 : decode cX6_copy 4 = .ok (.ifCond .eq 10, 3) := by decide +kernel
theorem dX6_copy_7 : decode cX6_copy 7 = .ok (.iload_n 3, 1) := by decide +kernel
theorem dX6_copy_8 : decode cX6_copy 8 = .ok (.invokestatic 60, 3) := by decide +kernel
theorem dX6_copy_11 : decode cX6_copy 11 = .ok (.ifCond .ne 6, 3) := by decide +kernel
theorem dX6_copy_14 : decode cX6_copy 14 = .ok (.ldc 64, 2) := by decide +kernel
theorem dX6_copy_16 : decode cX6_copy 16 = .ok (.ireturn, 1) := by decide +kernel
theorem dX6_copy_17 : decode cX6_copy 17 = .ok (.aload_n 0, 1) := by decide +kernel
theorem dX6_copy_18 : decode cX6_copy 18 = .ok (.getfield 10, 3) := by decide +kernel
theorem dX6_copy_21 : decode cX6_copy 21 = .ok (.iload_n 1, 1) := by decide +kernel
theorem dX6_copy_22 : decode cX6_copy 22 = .ok (.invokevirtual 76, 3) := by decide +kernel
theorem dX6_copy_25 : decode cX6_copy 25 = .ok (.ifCond .ne 14, 3) := by decide +kernel
theorem dX6_copy_28 : decode cX6_copy 28 = .ok (.aload_n 0, 1) := by decide +kernel
theorem dX6_copy_29 : decode cX6_copy 29 = .ok (.getfield 10, 3) := by decide +kernel
theorem dX6_copy_32 : decode cX6_copy 32 = .ok (.iload_n 3, 1) := by decide +kernel
theorem dX6_copy_33 : decode cX6_copy 33 = .ok (.invokevirtual 76, 3) := by decide +kernel
theorem dX6_copy_36 : decode cX6_copy 36 = .ok (.ifCond .eq 9, 3) := by decide +kernel
theorem dX6_copy_39 : decode cX6_copy 39 = .ok (.aload_n 0, 1) := by decide +kernel
theorem dX6_copy_40 : decode cX6_copy 40 = .ok (.iconst 1, 1) := by decide +kernel
theorem dX6_copy_41 : decode cX6_copy 41 = .ok (.invokevirtual 65, 3) := by decide +kernel
theorem dX6_copy_44 : decode cX6_copy 44 = .ok (.ireturn, 1) := by decide +kernel
theorem dX6_copy_45 : decode cX6_copy 45 = .ok (.aload_n 0, 1) := by decide +kernel
theorem dX6_copy_46 : decode cX6_copy 46 = .ok (.getfield 10, 3) := by decide +kernel
theorem dX6_copy_49 : decode cX6_copy 49 = .ok (.getfield 87, 3) := by decide +kernel
theorem dX6_copy_52 : decode cX6_copy 52 = .ok (.iload_n 1, 1) := by decide +kernel
theorem dX6_copy_53 : decode cX6_copy 53 = .ok (.iaload, 1) := by decide +kernel
theorem dX6_copy_54 : decode cX6_copy 54 = .ok (.aload_n 0, 1) := by decide +kernel
theorem dX6_copy_55 : decode cX6_copy 55 = .ok (.getfield 10, 3) := by decide +kernel
theorem dX6_copy_58 : decode cX6_copy 58 = .ok (.getfield 87, 3) := by decide +kernel
theorem dX6_copy_61 : decode cX6_copy 61 = .ok (.iload_n 3, 1) := by decide +kernel
theorem dX6_copy_62 : decode cX6_copy 62 = .ok (.iaload, 1) := by decide +kernel
theorem dX6_copy_63 : decode cX6_copy 63 = .ok (.if_icmp .eq 9, 3) := by decide +kernel
theorem dX6_copy_66 : decode cX6_copy 66 = .ok (.aload_n 0, 1) := by decide +kernel
theorem dX6_copy_67 : decode cX6_copy 67 = .ok (.iconst 5, 1) := by decide +kernel
theorem dX6_copy_68 : decode cX6_copy 68 = .ok (.invokevirtual 65, 3) := by decide +kernel
theorem dX6_copy_71 : decode cX6_copy 71 = .ok (.ireturn, 1) := by decide +kernel
theorem dX6_copy_72 : decode cX6_copy 72 = .ok (.aload_n 0, 1) := by decide +kernel
theorem dX6_copy_73 : decode cX6_copy 73 = .ok (.getfield 10, 3) := by decide +kernel
theorem dX6_copy_76 : decode cX6_copy 76 = .ok (.iload_n 1, 1) := by decide +kernel
theorem dX6_copy_77 : decode cX6_copy 77 = .ok (.iload_n 2, 1) := by decide +kernel
theorem dX6_copy_78 : decode cX6_copy 78 = .ok (.iload 5, 2) := by decide +kernel
theorem dX6_copy_80 : decode cX6_copy 80 = .ok (.invokevirtual 79, 3) := by decide +kernel
theorem dX6_copy_83 : decode cX6_copy 83 = .ok (.ifCond .eq 18, 3) := by decide +kernel
theorem dX6_copy_86 : decode cX6_copy 86 = .ok (.aload_n 0, 1) := by decide +kernel
theorem dX6_copy_87 : decode cX6_copy 87 = .ok (.getfield 10, 3) := by decide +kernel
theorem dX6_copy_90 : decode cX6_copy 90 = .ok (.iload_n 3, 1) := by decide +kernel
theorem dX6_copy_91 : decode cX6_copy 91 = .ok (.iload 4, 2) := by decide +kernel
theorem dX6_copy_93 : decode cX6_copy 93 = .ok (.iload 5, 2) := by decide +kernel
theorem dX6_copy_95 : decode cX6_copy 95 = .ok (.invokevirtual 79, 3) := by decide +kernel
theorem dX6_copy_98 : decode cX6_copy 98 = .ok (.ifCond .ne 9, 3) := by decide +kernel
theorem dX6_copy_101 : decode cX6_copy 101 = .ok (.aload_n 0, 1) := by decide +kernel
theorem dX6_copy_102 : decode cX6_copy 102 = .ok (.iconst 2, 1) := by decide +kernel
theorem dX6_copy_103 : decode cX6_copy 103 = .ok (.invokevirtual 65, 3) := by decide +kernel
theorem dX6_copy_106 : decode cX6_copy 106 = .ok (.ireturn, 1) := by decide +kernel
theorem dX6_copy_107 : decode cX6_copy 107 = .ok (.aload_n 0, 1) := by decide +kernel
theorem dX6_copy_108 : decode cX6_copy 108 = .ok (.getfield 10, 3) := by decide +kernel
theorem dX6_copy_111 : decode cX6_copy 111 = .ok (.getfield 91, 3) := by decide +kernel
theorem dX6_copy_114 : decode cX6_copy 114 = .ok (.iload_n 1, 1) := by decide +kernel
theorem dX6_copy_115 : decode cX6_copy 115 = .ok (.aaload, 1) := by decide +kernel
theorem dX6_copy_116 : decode cX6_copy 116 = .ok (.iload_n 2, 1) := by decide +kernel
theorem dX6_copy_117 : decode cX6_copy 117 = .ok (.aload_n 0, 1) := by decide +kernel
theorem dX6_copy_118 : decode cX6_copy 118 = .ok (.getfield 10, 3) := by decide +kernel
theorem dX6_copy_121 : decode cX6_copy 121 = .ok (.getfield 91, 3) := by decide +kernel
theorem dX6_copy_124 : decode cX6_copy 124 = .ok (.iload_n 3, 1) := by decide +kernel
theorem dX6_copy_125 : decode cX6_copy 125 = .ok (.aaload, 1) := by decide +kernel
theorem dX6_copy_126 : decode cX6_copy 126 = .ok (.iload 4, 2) := by decide +kernel
theorem dX6_copy_128 : decode cX6_copy 128 = .ok (.iload 5, 2) := by decide +kernel
theorem dX6_copy_130 : decode cX6_copy 130 = .ok (.invokestatic 95, 3) := by decide +kernel
theorem dX6_copy_133 : decode cX6_copy 133 = .ok (.aload_n 0, 1) := by decide +kernel
theorem dX6_copy_134 : decode cX6_copy 134 = .ok (.iload 5, 2) := by decide +kernel
theorem dX6_copy_136 : decode cX6_copy 136 = .ok (.invokevirtual 73, 3) := by decide +kernel
theorem dX6_copy_139 : decode cX6_copy 139 = .ok (.ireturn, 1) := by decide +kernel
theorem dX6_drop_0 : decode cX6_drop 0 = .ok (.iload_n 1, 1) := by decide +kernel
theorem dX6_drop_1 : decode cX6_drop 1 = .ok (.invokestatic 60, 3) := by decide +kernel
theorem dX6_drop_4 : decode cX6_drop 4 = .ok (.ifCond .ne 6, 3) := by decide +kernel
theorem dX6_drop_7 : decode cX6_drop 7 = .ok (.ldc 64, 2) := by decide +kernel
theorem dX6_drop_9 : decode cX6_drop 9 = .ok (.ireturn, 1) := by decide +kernel
theorem dX6_drop_10 : decode cX6_drop 10 = .ok (.aload_n 0, 1) := by decide +kernel
theorem dX6_drop_11 : decode cX6_drop 11 = .ok (.getfield 10, 3) := by decide +kernel
theorem dX6_drop_14 : decode cX6_drop 14 = .ok (.iload_n 1, 1) := by decide +kernel
theorem dX6_drop_15 : decode cX6_drop 15 = .ok (.invokevirtual 76, 3) := by decide +kernel
theorem dX6_drop_18 : decode cX6_drop 18 = .ok (.ifCond .eq 9, 3) := by decide +kernel
theorem dX6_drop_21 : decode cX6_drop 21 = .ok (.aload_n 0, 1) := by decide +kernel
theorem dX6_drop_22 : decode cX6_drop 22 = .ok (.iconst 1, 1) := by decide +kernel
theorem dX6_drop_23 : decode cX6_drop 23 = .ok (.invokevirtual 65, 3) := by decide +kernel
theorem dX6_drop_26 : decode cX6_drop 26 = .ok (.ireturn, 1) := by decide +kernel
theorem dX6_drop_27 : decode cX6_drop 27 = .ok (.aload_n 0, 1) := by decide +kernel
theorem dX6_drop_28 : decode cX6_drop 28 = .ok (.aload_n 0, 1) := by decide +kernel
theorem dX6_drop_29 : decode cX6_drop 29 = .ok (.getfield 10, 3) := by decide +kernel
theorem dX6_drop_32 : decode cX6_drop 32 = .ok (.iload_n 1, 1) := by decide +kernel
theorem dX6_drop_33 : decode cX6_drop 33 = .ok (.invokevirtual 101, 3) := by decide +kernel
theorem dX6_drop_36 : decode cX6_drop 36 = .ok (.invokevirtual 73, 3) := by decide +kernel
theorem dX6_drop_39 : decode cX6_drop 39 = .ok (.ireturn, 1) := by decide +kernel
theorem dX6_feed_0 : decode cX6_feed 0 = .ok (.iload_n 1, 1) := by decide +kernel
theorem dX6_feed_1 : decode cX6_feed 1 = .ok (.ifCond .lt 10, 3) := by decide +kernel
theorem dX6_feed_4 : decode cX6_feed 4 = .ok (.iload_n 1, 1) := by decide +kernel
theorem dX6_feed_5 : decode cX6_feed 5 = .ok (.sipush 255, 3) := by decide +kernel
theorem dX6_feed_8 : decode cX6_feed 8 = .ok (.if_icmp .le 6, 3) := by decide +kernel
theorem dX6_feed_11 : decode cX6_feed 11 = .ok (.ldc 64, 2) := by decide +kernel
theorem dX6_feed_13 : decode cX6_feed 13 = .ok (.ireturn, 1) := by decide +kernel
theorem dX6_feed_14 : decode cX6_feed 14 = .ok (.aload_n 0, 1) := by decide +kernel
theorem dX6_feed_15 : decode cX6_feed 15 = .ok (.getfield 19, 3) := by decide +kernel
theorem dX6_feed_18 : decode cX6_feed 18 = .ok (.iload_n 1, 1) := by decide +kernel
theorem dX6_feed_19 : decode cX6_feed 19 = .ok (.invokevirtual 104, 3) := by decide +kernel
theorem dX6_feed_22 : decode cX6_feed 22 = .ok (.ifCond .eq 13, 3) := by decide +kernel
theorem dX6_feed_25 : decode cX6_feed 25 = .ok (.aload_n 0, 1) := by decide +kernel
theorem dX6_feed_26 : decode cX6_feed 26 = .ok (.getfield 19, 3) := by decide +kernel
theorem dX6_feed_29 : decode cX6_feed 29 = .ok (.getfield 107, 3) := by decide +kernel
theorem dX6_feed_32 : decode cX6_feed 32 = .ok (.goto 5, 3) := by decide +kernel
theorem dX6_feed_35 : decode cX6_feed 35 = .ok (.ldc 111, 2) := by decide +kernel
theorem dX6_feed_37 : decode cX6_feed 37 = .ok (.ireturn, 1) := by decide +kernel
theorem dX6_town_0 : decode cX6_town 0 = .ok (.aload_n 0, 1) := by decide +kernel
theorem dX6_town_1 : decode cX6_town 1 = .ok (.getfield 19, 3) := by decide +kernel
theorem dX6_town_4 : decode cX6_town 4 = .ok (.aload_n 0, 1) := by decide +kernel
theorem dX6_town_5 : decode cX6_town 5 = .ok (.getfield 30, 3) := by decide +kernel
theorem dX6_town_8 : decode cX6_town 8 = .ok (.invokevirtual 112, 3) := by decide +kernel
theorem dX6_town_11 : decode cX6_town 11 = .ok (.istore_n 1, 1) := by decide +kernel
theorem dX6_town_12 : decode cX6_town 12 = .ok (.aload_n 0, 1) := by decide +kernel
theorem dX6_town_13 : decode cX6_town 13 = .ok (.getfield 19, 3) := by decide +kernel
theorem dX6_town_16 : decode cX6_town 16 = .ok (.iconst 0, 1) := by decide +kernel
theorem dX6_town_17 : decode cX6_town 17 = .ok (.putfield 107, 3) := by decide +kernel
theorem dX6_town_20 : decode cX6_town 20 = .ok (.iload_n 1, 1) := by decide +kernel
theorem dX6_town_21 : decode cX6_town 21 = .ok (.ifCond .ne 14, 3) := by decide +kernel
theorem dX6_town_24 : decode cX6_town 24 = .ok (.ldc 116, 2) := by decide +kernel
theorem dX6_town_26 : decode cX6_town 26 = .ok (.aload_n 0, 1) := by decide +kernel
theorem dX6_town_27 : decode cX6_town 27 = .ok (.getfield 19, 3) := by decide +kernel
theorem dX6_town_30 : decode cX6_town 30 = .ok (.getfield 117, 3) := by decide +kernel
theorem dX6_town_33 : decode cX6_town 33 = .ok (.isub, 1) := by decide +kernel
theorem dX6_town_34 : decode cX6_town 34 = .ok (.ireturn, 1) := by decide +kernel
theorem dX6_town_35 : decode cX6_town 35 = .ok (.aload_n 0, 1) := by decide +kernel
theorem dX6_town_36 : decode cX6_town 36 = .ok (.getfield 26, 3) := by decide +kernel
theorem dX6_town_39 : decode cX6_town 39 = .ok (.aload_n 0, 1) := by decide +kernel
theorem dX6_town_40 : decode cX6_town 40 = .ok (.getfield 30, 3) := by decide +kernel
theorem dX6_town_43 : decode cX6_town 43 = .ok (.invokevirtual 120, 3) := by decide +kernel
theorem dX6_town_46 : decode cX6_town 46 = .ok (.aload_n 0, 1) := by decide +kernel
theorem dX6_town_47 : decode cX6_town 47 = .ok (.getfield 42, 3) := by decide +kernel
theorem dX6_town_50 : decode cX6_town 50 = .ok (.invokevirtual 124, 3) := by decide +kernel
theorem dX6_town_53 : decode cX6_town 53 = .ok (.aload_n 0, 1) := by decide +kernel
theorem dX6_town_54 : decode cX6_town 54 = .ok (.getfield 26, 3) := by decide +kernel
theorem dX6_town_57 : decode cX6_town 57 = .ok (.getfield 127, 3) := by decide +kernel
theorem dX6_town_60 : decode cX6_town 60 = .ok (.ireturn, 1) := by decide +kernel
theorem dX6_fault_0 : decode cX6_fault 0 = .ok (.aload_n 0, 1) := by decide +kernel
theorem dX6_fault_1 : decode cX6_fault 1 = .ok (.getfield 19, 3) := by decide +kernel
theorem dX6_fault_4 : decode cX6_fault 4 = .ok (.getfield 130, 3) := by decide +kernel
theorem dX6_fault_7 : decode cX6_fault 7 = .ok (.ireturn, 1) := by decide +kernel
theorem dX6_hours_0 : decode cX6_hours 0 = .ok (.aload_n 0, 1) := by decide +kernel
theorem dX6_hours_1 : decode cX6_hours 1 = .ok (.invokevirtual 133, 3) := by decide +kernel
theorem dX6_hours_4 : decode cX6_hours 4 = .ok (.ifCond .eq 6, 3) := by decide +kernel
theorem dX6_hours_7 : decode cX6_hours 7 = .ok (.ldc 137, 2) := by decide +kernel
theorem dX6_hours_9 : decode cX6_hours 9 = .ok (.ireturn, 1) := by decide +kernel
theorem dX6_hours_10 : decode cX6_hours 10 = .ok (.iload_n 1, 1) := by decide +kernel
theorem dX6_hours_11 : decode cX6_hours 11 = .ok (.iconst 1, 1) := by decide +kernel
theorem dX6_hours_12 : decode cX6_hours 12 = .ok (.if_icmp .lt 9, 3) := by decide +kernel
theorem dX6_hours_15 : decode cX6_hours 15 = .ok (.iload_n 1, 1) := by decide +kernel
theorem dX6_hours_16 : decode cX6_hours 16 = .ok (.bipush 24, 2) := by decide +kernel
theorem dX6_hours_18 : decode cX6_hours 18 = .ok (.if_icmp .le 6, 3) := by decide +kernel
theorem dX6_hours_21 : decode cX6_hours 21 = .ok (.ldc 64, 2) := by decide +kernel
theorem dX6_hours_23 : decode cX6_hours 23 = .ok (.ireturn, 1) := by decide +kernel
theorem dX6_hours_24 : decode cX6_hours 24 = .ok (.aload_n 0, 1) := by decide +kernel
theorem dX6_hours_25 : decode cX6_hours 25 = .ok (.getfield 26, 3) := by decide +kernel
theorem dX6_hours_28 : decode cX6_hours 28 = .ok (.getfield 138, 3) := by decide +kernel
theorem dX6_hours_31 : decode cX6_hours 31 = .ok (.iload_n 1, 1) := by decide +kernel
theorem dX6_hours_32 : decode cX6_hours 32 = .ok (.iadd, 1) := by decide +kernel
theorem dX6_hours_33 : decode cX6_hours 33 = .ok (.sipush 9999, 3) := by decide +kernel
theorem dX6_hours_36 : decode cX6_hours 36 = .ok (.if_icmp .le 6, 3) := by decide +kernel
theorem dX6_hours_39 : decode cX6_hours 39 = .ok (.ldc 111, 2) := by decide +kernel
theorem dX6_hours_41 : decode cX6_hours 41 = .ok (.ireturn, 1) := by decide +kernel
theorem dX6_hours_42 : decode cX6_hours 42 = .ok (.iconst 0, 1) := by decide +kernel
theorem dX6_hours_43 : decode cX6_hours 43 = .ok (.istore_n 2, 1) := by decide +kernel
theorem dX6_hours_44 : decode cX6_hours 44 = .ok (.iload_n 2, 1) := by decide +kernel
theorem dX6_hours_45 : decode cX6_hours 45 = .ok (.iload_n 1, 1) := by decide +kernel
theorem dX6_hours_46 : decode cX6_hours 46 = .ok (.if_icmp .ge 27, 3) := by decide +kernel
theorem dX6_hours_49 : decode cX6_hours 49 = .ok (.aload_n 0, 1) := by decide +kernel
theorem dX6_hours_50 : decode cX6_hours 50 = .ok (.getfield 42, 3) := by decide +kernel
theorem dX6_hours_53 : decode cX6_hours 53 = .ok (.aload_n 0, 1) := by decide +kernel
theorem dX6_hours_54 : decode cX6_hours 54 = .ok (.getfield 26, 3) := by decide +kernel
theorem dX6_hours_57 : decode cX6_hours 57 = .ok (.invokevirtual 141, 3) := by decide +kernel
theorem dX6_hours_60 : decode cX6_hours 60 = .ok (.aload_n 0, 1) := by decide +kernel
theorem dX6_hours_61 : decode cX6_hours 61 = .ok (.getfield 26, 3) := by decide +kernel
theorem dX6_hours_64 : decode cX6_hours 64 = .ok (.invokevirtual 144, 3) := by decide +kernel
theorem dX6_hours_67 : decode cX6_hours 67 = .ok (.iinc 2 1, 3) := by decide +kernel
theorem dX6_hours_70 : decode cX6_hours 70 = .ok (.goto (-26), 3) := by decide +kernel
theorem dX6_hours_73 : decode cX6_hours 73 = .ok (.aload_n 0, 1) := by decide +kernel
theorem dX6_hours_74 : decode cX6_hours 74 = .ok (.getfield 26, 3) := by decide +kernel
theorem dX6_hours_77 : decode cX6_hours 77 = .ok (.invokevirtual 147, 3) := by decide +kernel
theorem dX6_hours_80 : decode cX6_hours 80 = .ok (.ireturn, 1) := by decide +kernel
theorem dX6_beat_0 : decode cX6_beat 0 = .ok (.aload_n 0, 1) := by decide +kernel
theorem dX6_beat_1 : decode cX6_beat 1 = .ok (.getfield 26, 3) := by decide +kernel
theorem dX6_beat_4 : decode cX6_beat 4 = .ok (.iload_n 1, 1) := by decide +kernel
theorem dX6_beat_5 : decode cX6_beat 5 = .ok (.invokevirtual 151, 3) := by decide +kernel
theorem dX6_beat_8 : decode cX6_beat 8 = .ok (.ifCond .eq 14, 3) := by decide +kernel
theorem dX6_beat_11 : decode cX6_beat 11 = .ok (.aload_n 0, 1) := by decide +kernel
theorem dX6_beat_12 : decode cX6_beat 12 = .ok (.getfield 26, 3) := by decide +kernel
theorem dX6_beat_15 : decode cX6_beat 15 = .ok (.iload_n 2, 1) := by decide +kernel
theorem dX6_beat_16 : decode cX6_beat 16 = .ok (.invokevirtual 154, 3) := by decide +kernel
theorem dX6_beat_19 : decode cX6_beat 19 = .ok (.ifCond .ne 6, 3) := by decide +kernel
theorem dX6_beat_22 : decode cX6_beat 22 = .ok (.ldc 64, 2) := by decide +kernel
theorem dX6_beat_24 : decode cX6_beat 24 = .ok (.ireturn, 1) := by decide +kernel
theorem dX6_beat_25 : decode cX6_beat 25 = .ok (.aload_n 0, 1) := by decide +kernel
theorem dX6_beat_26 : decode cX6_beat 26 = .ok (.getfield 26, 3) := by decide +kernel
theorem dX6_beat_29 : decode cX6_beat 29 = .ok (.getfield 157, 3) := by decide +kernel
theorem dX6_beat_32 : decode cX6_beat 32 = .ok (.iload_n 1, 1) := by decide +kernel
theorem dX6_beat_33 : decode cX6_beat 33 = .ok (.iaload, 1) := by decide +kernel
theorem dX6_beat_34 : decode cX6_beat 34 = .ok (.istore_n 3, 1) := by decide +kernel
theorem dX6_beat_35 : decode cX6_beat 35 = .ok (.iload_n 3, 1) := by decide +kernel
theorem dX6_beat_36 : decode cX6_beat 36 = .ok (.iload_n 2, 1) := by decide +kernel
theorem dX6_beat_37 : decode cX6_beat 37 = .ok (.if_icmp .ne 6, 3) := by decide +kernel
theorem dX6_beat_40 : decode cX6_beat 40 = .ok (.ldc 137, 2) := by decide +kernel
theorem dX6_beat_42 : decode cX6_beat 42 = .ok (.ireturn, 1) := by decide +kernel
theorem dX6_beat_43 : decode cX6_beat 43 = .ok (.aload_n 0, 1) := by decide +kernel
theorem dX6_beat_44 : decode cX6_beat 44 = .ok (.getfield 42, 3) := by decide +kernel
theorem dX6_beat_47 : decode cX6_beat 47 = .ok (.aload_n 0, 1) := by decide +kernel
theorem dX6_beat_48 : decode cX6_beat 48 = .ok (.getfield 26, 3) := by decide +kernel
theorem dX6_beat_51 : decode cX6_beat 51 = .ok (.invokevirtual 141, 3) := by decide +kernel
theorem dX6_beat_54 : decode cX6_beat 54 = .ok (.aload_n 0, 1) := by decide +kernel
theorem dX6_beat_55 : decode cX6_beat 55 = .ok (.getfield 26, 3) := by decide +kernel
theorem dX6_beat_58 : decode cX6_beat 58 = .ok (.getfield 157, 3) := by decide +kernel
theorem dX6_beat_61 : decode cX6_beat 61 = .ok (.iload_n 1, 1) := by decide +kernel
theorem dX6_beat_62 : decode cX6_beat 62 = .ok (.iload_n 2, 1) := by decide +kernel
theorem dX6_beat_63 : decode cX6_beat 63 = .ok (.iastore, 1) := by decide +kernel
theorem dX6_beat_64 : decode cX6_beat 64 = .ok (.iload_n 3, 1) := by decide +kernel
theorem dX6_beat_65 : decode cX6_beat 65 = .ok (.ireturn, 1) := by decide +kernel
theorem dX6_reach_0 : decode cX6_reach 0 = .ok (.aload_n 0, 1) := by decide +kernel
theorem dX6_reach_1 : decode cX6_reach 1 = .ok (.invokevirtual 133, 3) := by decide +kernel
theorem dX6_reach_4 : decode cX6_reach 4 = .ok (.ifCond .eq 6, 3) := by decide +kernel
theorem dX6_reach_7 : decode cX6_reach 7 = .ok (.ldc 137, 2) := by decide +kernel
theorem dX6_reach_9 : decode cX6_reach 9 = .ok (.ireturn, 1) := by decide +kernel
theorem dX6_reach_10 : decode cX6_reach 10 = .ok (.iload_n 1, 1) := by decide +kernel
theorem dX6_reach_11 : decode cX6_reach 11 = .ok (.ifCond .lt 8, 3) := by decide +kernel
theorem dX6_reach_14 : decode cX6_reach 14 = .ok (.iload_n 1, 1) := by decide +kernel
theorem dX6_reach_15 : decode cX6_reach 15 = .ok (.iconst 3, 1) := by decide +kernel
theorem dX6_reach_16 : decode cX6_reach 16 = .ok (.if_icmp .le 6, 3) := by decide +kernel
theorem dX6_reach_19 : decode cX6_reach 19 = .ok (.ldc 64, 2) := by decide +kernel
theorem dX6_reach_21 : decode cX6_reach 21 = .ok (.ireturn, 1) := by decide +kernel
theorem dX6_reach_22 : decode cX6_reach 22 = .ok (.aload_n 0, 1) := by decide +kernel
theorem dX6_reach_23 : decode cX6_reach 23 = .ok (.getfield 26, 3) := by decide +kernel
theorem dX6_reach_26 : decode cX6_reach 26 = .ok (.getfield 160, 3) := by decide +kernel
theorem dX6_reach_29 : decode cX6_reach 29 = .ok (.istore_n 2, 1) := by decide +kernel
theorem dX6_reach_30 : decode cX6_reach 30 = .ok (.aload_n 0, 1) := by decide +kernel
theorem dX6_reach_31 : decode cX6_reach 31 = .ok (.getfield 42, 3) := by decide +kernel
theorem dX6_reach_34 : decode cX6_reach 34 = .ok (.aload_n 0, 1) := by decide +kernel
theorem dX6_reach_35 : decode cX6_reach 35 = .ok (.getfield 26, 3) := by decide +kernel
theorem dX6_reach_38 : decode cX6_reach 38 = .ok (.invokevirtual 141, 3) := by decide +kernel
theorem dX6_reach_41 : decode cX6_reach 41 = .ok (.aload_n 0, 1) := by decide +kernel
theorem dX6_reach_42 : decode cX6_reach 42 = .ok (.getfield 26, 3) := by decide +kernel
theorem dX6_reach_45 : decode cX6_reach 45 = .ok (.iload_n 1, 1) := by decide +kernel
theorem dX6_reach_46 : decode cX6_reach 46 = .ok (.putfield 160, 3) := by decide +kernel
theorem dX6_reach_49 : decode cX6_reach 49 = .ok (.iload_n 2, 1) := by decide +kernel
theorem dX6_reach_50 : decode cX6_reach 50 = .ok (.ireturn, 1) := by decide +kernel
theorem dX6_lull_0 : decode cX6_lull 0 = .ok (.aload_n 0, 1) := by decide +kernel
theorem dX6_lull_1 : decode cX6_lull 1 = .ok (.getfield 26, 3) := by decide +kernel
theorem dX6_lull_4 : decode cX6_lull 4 = .ok (.iload_n 1, 1) := by decide +kernel
theorem dX6_lull_5 : decode cX6_lull 5 = .ok (.invokevirtual 154, 3) := by decide +kernel
theorem dX6_lull_8 : decode cX6_lull 8 = .ok (.ifCond .eq 14, 3) := by decide +kernel
theorem dX6_lull_11 : decode cX6_lull 11 = .ok (.iload_n 2, 1) := by decide +kernel
theorem dX6_lull_12 : decode cX6_lull 12 = .ok (.iconst 1, 1) := by decide +kernel
theorem dX6_lull_13 : decode cX6_lull 13 = .ok (.if_icmp .lt 9, 3) := by decide +kernel
theorem dX6_lull_16 : decode cX6_lull 16 = .ok (.iload_n 2, 1) := by decide +kernel
theorem dX6_lull_17 : decode cX6_lull 17 = .ok (.bipush 20, 2) := by decide +kernel
theorem dX6_lull_19 : decode cX6_lull 19 = .ok (.if_icmp .le 6, 3) := by decide +kernel
theorem dX6_lull_22 : decode cX6_lull 22 = .ok (.ldc 64, 2) := by decide +kernel
theorem dX6_lull_24 : decode cX6_lull 24 = .ok (.ireturn, 1) := by decide +kernel
theorem dX6_lull_25 : decode cX6_lull 25 = .ok (.aload_n 0, 1) := by decide +kernel
theorem dX6_lull_26 : decode cX6_lull 26 = .ok (.getfield 42, 3) := by decide +kernel
theorem dX6_lull_29 : decode cX6_lull 29 = .ok (.aload_n 0, 1) := by decide +kernel
theorem dX6_lull_30 : decode cX6_lull 30 = .ok (.getfield 26, 3) := by decide +kernel
theorem dX6_lull_33 : decode cX6_lull 33 = .ok (.invokevirtual 141, 3) := by decide +kernel
theorem dX6_lull_36 : decode cX6_lull 36 = .ok (.aload_n 0, 1) := by decide +kernel
theorem dX6_lull_37 : decode cX6_lull 37 = .ok (.getfield 26, 3) := by decide +kernel
theorem dX6_lull_40 : decode cX6_lull 40 = .ok (.getfield 163, 3) := by decide +kernel
theorem dX6_lull_43 : decode cX6_lull 43 = .ok (.iload_n 1, 1) := by decide +kernel
theorem dX6_lull_44 : decode cX6_lull 44 = .ok (.aload_n 0, 1) := by decide +kernel
theorem dX6_lull_45 : decode cX6_lull 45 = .ok (.getfield 26, 3) := by decide +kernel
theorem dX6_lull_48 : decode cX6_lull 48 = .ok (.getfield 163, 3) := by decide +kernel
theorem dX6_lull_51 : decode cX6_lull 51 = .ok (.iload_n 1, 1) := by decide +kernel
theorem dX6_lull_52 : decode cX6_lull 52 = .ok (.iaload, 1) := by decide +kernel
theorem dX6_lull_53 : decode cX6_lull 53 = .ok (.iload_n 2, 1) := by decide +kernel
theorem dX6_lull_54 : decode cX6_lull 54 = .ok (.iadd, 1) := by decide +kernel
theorem dX6_lull_55 : decode cX6_lull 55 = .ok (.bipush 20, 2) := by decide +kernel
theorem dX6_lull_57 : decode cX6_lull 57 = .ok (.invokestatic 166, 3) := by decide +kernel
theorem dX6_lull_60 : decode cX6_lull 60 = .ok (.iastore, 1) := by decide +kernel
theorem dX6_lull_61 : decode cX6_lull 61 = .ok (.aload_n 0, 1) := by decide +kernel
theorem dX6_lull_62 : decode cX6_lull 62 = .ok (.getfield 26, 3) := by decide +kernel
theorem dX6_lull_65 : decode cX6_lull 65 = .ok (.getfield 163, 3) := by decide +kernel
theorem dX6_lull_68 : decode cX6_lull 68 = .ok (.iload_n 1, 1) := by decide +kernel
theorem dX6_lull_69 : decode cX6_lull 69 = .ok (.iaload, 1) := by decide +kernel
theorem dX6_lull_70 : decode cX6_lull 70 = .ok (.ireturn, 1) := by decide +kernel
theorem dX6_bring_0 : decode cX6_bring 0 = .ok (.aload_n 0, 1) := by decide +kernel
theorem dX6_bring_1 : decode cX6_bring 1 = .ok (.getfield 26, 3) := by decide +kernel
theorem dX6_bring_4 : decode cX6_bring 4 = .ok (.iload_n 1, 1) := by decide +kernel
theorem dX6_bring_5 : decode cX6_bring 5 = .ok (.invokevirtual 154, 3) := by decide +kernel
theorem dX6_bring_8 : decode cX6_bring 8 = .ok (.ifCond .eq 14, 3) := by decide +kernel
theorem dX6_bring_11 : decode cX6_bring 11 = .ok (.iload_n 2, 1) := by decide +kernel
theorem dX6_bring_12 : decode cX6_bring 12 = .ok (.iconst 1, 1) := by decide +kernel
theorem dX6_bring_13 : decode cX6_bring 13 = .ok (.if_icmp .lt 9, 3) := by decide +kernel
theorem dX6_bring_16 : decode cX6_bring 16 = .ok (.iload_n 2, 1) := by decide +kernel
theorem dX6_bring_17 : decode cX6_bring 17 = .ok (.bipush 60, 2) := by decide +kernel
theorem dX6_bring_19 : decode cX6_bring 19 = .ok (.if_icmp .le 6, 3) := by decide +kernel
theorem dX6_bring_22 : decode cX6_bring 22 = .ok (.ldc 64, 2) := by decide +kernel
theorem dX6_bring_24 : decode cX6_bring 24 = .ok (.ireturn, 1) := by decide +kernel
theorem dX6_bring_25 : decode cX6_bring 25 = .ok (.aload_n 0, 1) := by decide +kernel
theorem dX6_bring_26 : decode cX6_bring 26 = .ok (.getfield 42, 3) := by decide +kernel
theorem dX6_bring_29 : decode cX6_bring 29 = .ok (.aload_n 0, 1) := by decide +kernel
theorem dX6_bring_30 : decode cX6_bring 30 = .ok (.getfield 26, 3) := by decide +kernel
theorem dX6_bring_33 : decode cX6_bring 33 = .ok (.invokevirtual 141, 3) := by decide +kernel
theorem dX6_bring_36 : decode cX6_bring 36 = .ok (.aload_n 0, 1) := by decide +kernel
theorem dX6_bring_37 : decode cX6_bring 37 = .ok (.getfield 26, 3) := by decide +kernel
theorem dX6_bring_40 : decode cX6_bring 40 = .ok (.getfield 172, 3) := by decide +kernel
theorem dX6_bring_43 : decode cX6_bring 43 = .ok (.iload_n 1, 1) := by decide +kernel
theorem dX6_bring_44 : decode cX6_bring 44 = .ok (.aload_n 0, 1) := by decide +kernel
theorem dX6_bring_45 : decode cX6_bring 45 = .ok (.getfield 26, 3) := by decide +kernel
theorem dX6_bring_48 : decode cX6_bring 48 = .ok (.getfield 172, 3) := by decide +kernel
theorem dX6_bring_51 : decode cX6_bring 51 = .ok (.iload_n 1, 1) := by decide +kernel
theorem dX6_bring_52 : decode cX6_bring 52 = .ok (.iaload, 1) := by decide +kernel
theorem dX6_bring_53 : decode cX6_bring 53 = .ok (.iload_n 2, 1) := by decide +kernel
theorem dX6_bring_54 : decode cX6_bring 54 = .ok (.iadd, 1) := by decide +kernel
theorem dX6_bring_55 : decode cX6_bring 55 = .ok (.bipush 60, 2) := by decide +kernel
theorem dX6_bring_57 : decode cX6_bring 57 = .ok (.invokestatic 166, 3) := by decide +kernel
theorem dX6_bring_60 : decode cX6_bring 60 = .ok (.iastore, 1) := by decide +kernel
theorem dX6_bring_61 : decode cX6_bring 61 = .ok (.aload_n 0, 1) := by decide +kernel
theorem dX6_bring_62 : decode cX6_bring 62 = .ok (.getfield 26, 3) := by decide +kernel
theorem dX6_bring_65 : decode cX6_bring 65 = .ok (.getfield 172, 3) := by decide +kernel
theorem dX6_bring_68 : decode cX6_bring 68 = .ok (.iload_n 1, 1) := by decide +kernel
theorem dX6_bring_69 : decode cX6_bring 69 = .ok (.iaload, 1) := by decide +kernel
theorem dX6_bring_70 : decode cX6_bring 70 = .ok (.ireturn, 1) := by decide +kernel
theorem dX6_undo_0 : decode cX6_undo 0 = .ok (.aload_n 0, 1) := by decide +kernel
theorem dX6_undo_1 : decode cX6_undo 1 = .ok (.getfield 42, 3) := by decide +kernel
theorem dX6_undo_4 : decode cX6_undo 4 = .ok (.aload_n 0, 1) := by decide +kernel
theorem dX6_undo_5 : decode cX6_undo 5 = .ok (.getfield 26, 3) := by decide +kernel
theorem dX6_undo_8 : decode cX6_undo 8 = .ok (.invokevirtual 175, 3) := by decide +kernel
theorem dX6_undo_11 : decode cX6_undo 11 = .ok (.ifCond .eq 13, 3) := by decide +kernel
theorem dX6_undo_14 : decode cX6_undo 14 = .ok (.aload_n 0, 1) := by decide +kernel
theorem dX6_undo_15 : decode cX6_undo 15 = .ok (.getfield 42, 3) := by decide +kernel
theorem dX6_undo_18 : decode cX6_undo 18 = .ok (.getfield 178, 3) := by decide +kernel
theorem dX6_undo_21 : decode cX6_undo 21 = .ok (.goto 5, 3) := by decide +kernel
theorem dX6_undo_24 : decode cX6_undo 24 = .ok (.ldc 137, 2) := by decide +kernel
theorem dX6_undo_26 : decode cX6_undo 26 = .ok (.ireturn, 1) := by decide +kernel
theorem dX6_street_0 : decode cX6_street 0 = .ok (.aload_n 0, 1) := by decide +kernel
theorem dX6_street_1 : decode cX6_street 1 = .ok (.getfield 26, 3) := by decide +kernel
theorem dX6_street_4 : decode cX6_street 4 = .ok (.iload_n 1, 1) := by decide +kernel
theorem dX6_street_5 : decode cX6_street 5 = .ok (.invokevirtual 154, 3) := by decide +kernel
theorem dX6_street_8 : decode cX6_street 8 = .ok (.ifCond .ne 6, 3) := by decide +kernel
theorem dX6_street_11 : decode cX6_street 11 = .ok (.ldc 64, 2) := by decide +kernel
theorem dX6_street_13 : decode cX6_street 13 = .ok (.ireturn, 1) := by decide +kernel
theorem dX6_street_14 : decode cX6_street 14 = .ok (.iload_n 2, 1) := by decide +kernel
theorem dX6_street_15 : decode cX6_street 15 = .ok (.tableswitch 144 0 4 #[33, 43, 53, 70, 107], 33) := by decide +kernel
theorem dX6_street_48 : decode cX6_street 48 = .ok (.aload_n 0, 1) := by decide +kernel
theorem dX6_street_49 : decode cX6_street 49 = .ok (.getfield 26, 3) := by decide +kernel
theorem dX6_street_52 : decode cX6_street 52 = .ok (.getfield 163, 3) := by decide +kernel
theorem dX6_street_55 : decode cX6_street 55 = .ok (.iload_n 1, 1) := by decide +kernel
theorem dX6_street_56 : decode cX6_street 56 = .ok (.iaload, 1) := by decide +kernel
theorem dX6_street_57 : decode cX6_street 57 = .ok (.ireturn, 1) := by decide +kernel
theorem dX6_street_58 : decode cX6_street 58 = .ok (.aload_n 0, 1) := by decide +kernel
theorem dX6_street_59 : decode cX6_street 59 = .ok (.getfield 26, 3) := by decide +kernel
theorem dX6_street_62 : decode cX6_street 62 = .ok (.getfield 172, 3) := by decide +kernel
theorem dX6_street_65 : decode cX6_street 65 = .ok (.iload_n 1, 1) := by decide +kernel
theorem dX6_street_66 : decode cX6_street 66 = .ok (.iaload, 1) := by decide +kernel
theorem dX6_street_67 : decode cX6_street 67 = .ok (.ireturn, 1) := by decide +kernel
theorem dX6_street_68 : decode cX6_street 68 = .ok (.aload_n 0, 1) := by decide +kernel
theorem dX6_street_69 : decode cX6_street 69 = .ok (.getfield 26, 3) := by decide +kernel
theorem dX6_street_72 : decode cX6_street 72 = .ok (.iload_n 1, 1) := by decide +kernel
theorem dX6_street_73 : decode cX6_street 73 = .ok (.invokevirtual 181, 3) := by decide +kernel
theorem dX6_street_76 : decode cX6_street 76 = .ok (.ifCond .eq 7, 3) := by decide +kernel
theorem dX6_street_79 : decode cX6_street 79 = .ok (.iconst 1, 1) := by decide +kernel
theorem dX6_street_80 : decode cX6_street 80 = .ok (.goto 4, 3) := by decide +kernel
theorem dX6_street_83 : decode cX6_street 83 = .ok (.iconst 0, 1) := by decide +kernel
theorem dX6_street_84 : decode cX6_street 84 = .ok (.ireturn, 1) := by decide +kernel
theorem dX6_street_85 : decode cX6_street 85 = .ok (.aload_n 0, 1) := by decide +kernel
theorem dX6_street_86 : decode cX6_street 86 = .ok (.getfield 26, 3) := by decide +kernel
theorem dX6_street_89 : decode cX6_street 89 = .ok (.getfield 184, 3) := by decide +kernel
theorem dX6_street_92 : decode cX6_street 92 = .ok (.iload_n 1, 1) := by decide +kernel
theorem dX6_street_93 : decode cX6_street 93 = .ok (.iaload, 1) := by decide +kernel
theorem dX6_street_94 : decode cX6_street 94 = .ok (.aload_n 0, 1) := by decide +kernel
theorem dX6_street_95 : decode cX6_street 95 = .ok (.getfield 26, 3) := by decide +kernel
theorem dX6_street_98 : decode cX6_street 98 = .ok (.getfield 163, 3) := by decide +kernel
theorem dX6_street_101 : decode cX6_street 101 = .ok (.iload_n 1, 1) := by decide +kernel
theorem dX6_street_102 : decode cX6_street 102 = .ok (.iaload, 1) := by decide +kernel
theorem dX6_street_103 : decode cX6_street 103 = .ok (.aload_n 0, 1) := by decide +kernel
theorem dX6_street_104 : decode cX6_street 104 = .ok (.getfield 26, 3) := by decide +kernel
theorem dX6_street_107 : decode cX6_street 107 = .ok (.iload_n 1, 1) := by decide +kernel
theorem dX6_street_108 : decode cX6_street 108 = .ok (.invokevirtual 181, 3) := by decide +kernel
theorem dX6_street_111 : decode cX6_street 111 = .ok (.aload_n 0, 1) := by decide +kernel
theorem dX6_street_112 : decode cX6_street 112 = .ok (.getfield 26, 3) := by decide +kernel
theorem dX6_street_115 : decode cX6_street 115 = .ok (.getfield 138, 3) := by decide +kernel
theorem dX6_street_118 : decode cX6_street 118 = .ok (.invokestatic 187, 3) := by decide +kernel
theorem dX6_street_121 : decode cX6_street 121 = .ok (.ireturn, 1) := by decide +kernel
theorem dX6_street_122 : decode cX6_street 122 = .ok (.aload_n 0, 1) := by decide +kernel
theorem dX6_street_123 : decode cX6_street 123 = .ok (.getfield 26, 3) := by decide +kernel
theorem dX6_street_126 : decode cX6_street 126 = .ok (.getfield 163, 3) := by decide +kernel
theorem dX6_street_129 : decode cX6_street 129 = .ok (.iload_n 1, 1) := by decide +kernel
theorem dX6_street_130 : decode cX6_street 130 = .ok (.iaload, 1) := by decide +kernel
theorem dX6_street_131 : decode cX6_street 131 = .ok (.aload_n 0, 1) := by decide +kernel
theorem dX6_street_132 : decode cX6_street 132 = .ok (.getfield 26, 3) := by decide +kernel
theorem dX6_street_135 : decode cX6_street 135 = .ok (.getfield 172, 3) := by decide +kernel
theorem dX6_street_138 : decode cX6_street 138 = .ok (.iload_n 1, 1) := by decide +kernel
theorem dX6_street_139 : decode cX6_street 139 = .ok (.iaload, 1) := by decide +kernel
theorem dX6_street_140 : decode cX6_street 140 = .ok (.aload_n 0, 1) := by decide +kernel
theorem dX6_street_141 : decode cX6_street 141 = .ok (.getfield 26, 3) := by decide +kernel
theorem dX6_street_144 : decode cX6_street 144 = .ok (.getfield 191, 3) := by decide +kernel
theorem dX6_street_147 : decode cX6_street 147 = .ok (.aload_n 0, 1) := by decide +kernel
theorem dX6_street_148 : decode cX6_street 148 = .ok (.getfield 26, 3) := by decide +kernel
theorem dX6_street_151 : decode cX6_street 151 = .ok (.iload_n 1, 1) := by decide +kernel
theorem dX6_street_152 : decode cX6_street 152 = .ok (.invokevirtual 181, 3) := by decide +kernel
theorem dX6_street_155 : decode cX6_street 155 = .ok (.invokestatic 194, 3) := by decide +kernel
theorem dX6_street_158 : decode cX6_street 158 = .ok (.ireturn, 1) := by decide +kernel
theorem dX6_street_159 : decode cX6_street 159 = .ok (.ldc 64, 2) := by decide +kernel
theorem dX6_street_161 : decode cX6_street 161 = .ok (.ireturn, 1) := by decide +kernel
theorem dX6_round_0 : decode cX6_round 0 = .ok (.aload_n 0, 1) := by decide +kernel
theorem dX6_round_1 : decode cX6_round 1 = .ok (.getfield 26, 3) := by decide +kernel
theorem dX6_round_4 : decode cX6_round 4 = .ok (.iload_n 1, 1) := by decide +kernel
theorem dX6_round_5 : decode cX6_round 5 = .ok (.invokevirtual 151, 3) := by decide +kernel
theorem dX6_round_8 : decode cX6_round 8 = .ok (.ifCond .eq 15, 3) := by decide +kernel
theorem dX6_round_11 : decode cX6_round 11 = .ok (.aload_n 0, 1) := by decide +kernel
theorem dX6_round_12 : decode cX6_round 12 = .ok (.getfield 26, 3) := by decide +kernel
theorem dX6_round_15 : decode cX6_round 15 = .ok (.getfield 157, 3) := by decide +kernel
theorem dX6_round_18 : decode cX6_round 18 = .ok (.iload_n 1, 1) := by decide +kernel
theorem dX6_round_19 : decode cX6_round 19 = .ok (.iaload, 1) := by decide +kernel
theorem dX6_round_20 : decode cX6_round 20 = .ok (.goto 5, 3) := by decide +kernel
theorem dX6_round_23 : decode cX6_round 23 = .ok (.ldc 64, 2) := by decide +kernel
theorem dX6_round_25 : decode cX6_round 25 = .ok (.ireturn, 1) := by decide +kernel
theorem dX6_ahead_0 : decode cX6_ahead 0 = .ok (.aload_n 0, 1) := by decide +kernel
theorem dX6_ahead_1 : decode cX6_ahead 1 = .ok (.getfield 26, 3) := by decide +kernel
theorem dX6_ahead_4 : decode cX6_ahead 4 = .ok (.iload_n 1, 1) := by decide +kernel
theorem dX6_ahead_5 : decode cX6_ahead 5 = .ok (.invokevirtual 154, 3) := by decide +kernel
theorem dX6_ahead_8 : decode cX6_ahead 8 = .ok (.ifCond .eq 17, 3) := by decide +kernel
theorem dX6_ahead_11 : decode cX6_ahead 11 = .ok (.iload_n 2, 1) := by decide +kernel
theorem dX6_ahead_12 : decode cX6_ahead 12 = .ok (.invokestatic 198, 3) := by decide +kernel
theorem dX6_ahead_15 : decode cX6_ahead 15 = .ok (.ifCond .ne 10, 3) := by decide +kernel
theorem dX6_ahead_18 : decode cX6_ahead 18 = .ok (.iload_n 3, 1) := by decide +kernel
theorem dX6_ahead_19 : decode cX6_ahead 19 = .ok (.invokestatic 201, 3) := by decide +kernel
theorem dX6_ahead_22 : decode cX6_ahead 22 = .ok (.ifCond .eq 6, 3) := by decide +kernel
theorem dX6_ahead_25 : decode cX6_ahead 25 = .ok (.ldc 64, 2) := by decide +kernel
theorem dX6_ahead_27 : decode cX6_ahead 27 = .ok (.ireturn, 1) := by decide +kernel
theorem dX6_ahead_28 : decode cX6_ahead 28 = .ok (.aload_n 0, 1) := by decide +kernel
theorem dX6_ahead_29 : decode cX6_ahead 29 = .ok (.getfield 49, 3) := by decide +kernel
theorem dX6_ahead_32 : decode cX6_ahead 32 = .ok (.aload_n 0, 1) := by decide +kernel
theorem dX6_ahead_33 : decode cX6_ahead 33 = .ok (.getfield 26, 3) := by decide +kernel
theorem dX6_ahead_36 : decode cX6_ahead 36 = .ok (.iload_n 2, 1) := by decide +kernel
theorem dX6_ahead_37 : decode cX6_ahead 37 = .ok (.invokevirtual 204, 3) := by decide +kernel
theorem dX6_ahead_40 : decode cX6_ahead 40 = .ok (.astore 4, 2) := by decide +kernel
theorem dX6_ahead_42 : decode cX6_ahead 42 = .ok (.iload_n 3, 1) := by decide +kernel
theorem dX6_ahead_43 : decode cX6_ahead 43 = .ok (.ifCond .ne 13, 3) := by decide +kernel
theorem dX6_ahead_46 : decode cX6_ahead 46 = .ok (.aload 4, 2) := by decide +kernel
theorem dX6_ahead_48 : decode cX6_ahead 48 = .ok (.getfield 163, 3) := by decide +kernel
theorem dX6_ahead_51 : decode cX6_ahead 51 = .ok (.iload_n 1, 1) := by decide +kernel
theorem dX6_ahead_52 : decode cX6_ahead 52 = .ok (.iaload, 1) := by decide +kernel
theorem dX6_ahead_53 : decode cX6_ahead 53 = .ok (.goto 10, 3) := by decide +kernel
theorem dX6_ahead_56 : decode cX6_ahead 56 = .ok (.aload 4, 2) := by decide +kernel
theorem dX6_ahead_58 : decode cX6_ahead 58 = .ok (.getfield 172, 3) := by decide +kernel
theorem dX6_ahead_61 : decode cX6_ahead 61 = .ok (.iload_n 1, 1) := by decide +kernel
theorem dX6_ahead_62 : decode cX6_ahead 62 = .ok (.iaload, 1) := by decide +kernel
theorem dX6_ahead_63 : decode cX6_ahead 63 = .ok (.ireturn, 1) := by decide +kernel
theorem dX6_later_0 : decode cX6_later 0 = .ok (.aload_n 0, 1) := by decide +kernel
theorem dX6_later_1 : decode cX6_later 1 = .ok (.invokevirtual 133, 3) := by decide +kernel
theorem dX6_later_4 : decode cX6_later 4 = .ok (.ifCond .eq 6, 3) := by decide +kernel
theorem dX6_later_7 : decode cX6_later 7 = .ok (.ldc 137, 2) := by decide +kernel
theorem dX6_later_9 : decode cX6_later 9 = .ok (.ireturn, 1) := by decide +kernel
theorem dX6_later_10 : decode cX6_later 10 = .ok (.iload_n 1, 1) := by decide +kernel
theorem dX6_later_11 : decode cX6_later 11 = .ok (.invokestatic 198, 3) := by decide +kernel
theorem dX6_later_14 : decode cX6_later 14 = .ok (.ifCond .ne 10, 3) := by decide +kernel
theorem dX6_later_17 : decode cX6_later 17 = .ok (.iload_n 2, 1) := by decide +kernel
theorem dX6_later_18 : decode cX6_later 18 = .ok (.invokestatic 201, 3) := by decide +kernel
theorem dX6_later_21 : decode cX6_later 21 = .ok (.ifCond .eq 6, 3) := by decide +kernel
theorem dX6_later_24 : decode cX6_later 24 = .ok (.ldc 64, 2) := by decide +kernel
theorem dX6_later_26 : decode cX6_later 26 = .ok (.ireturn, 1) := by decide +kernel
theorem dX6_later_27 : decode cX6_later 27 = .ok (.aload_n 0, 1) := by decide +kernel
theorem dX6_later_28 : decode cX6_later 28 = .ok (.getfield 49, 3) := by decide +kernel
theorem dX6_later_31 : decode cX6_later 31 = .ok (.aload_n 0, 1) := by decide +kernel
theorem dX6_later_32 : decode cX6_later 32 = .ok (.getfield 26, 3) := by decide +kernel
theorem dX6_later_35 : decode cX6_later 35 = .ok (.iload_n 1, 1) := by decide +kernel
theorem dX6_later_36 : decode cX6_later 36 = .ok (.invokevirtual 204, 3) := by decide +kernel
theorem dX6_later_39 : decode cX6_later 39 = .ok (.astore_n 3, 1) := by decide +kernel
theorem dX6_later_40 : decode cX6_later 40 = .ok (.iload_n 2, 1) := by decide +kernel
theorem dX6_later_41 : decode cX6_later 41 = .ok (.ifCond .ne 10, 3) := by decide +kernel
theorem dX6_later_44 : decode cX6_later 44 = .ok (.aload_n 3, 1) := by decide +kernel
theorem dX6_later_45 : decode cX6_later 45 = .ok (.invokevirtual 147, 3) := by decide +kernel
theorem dX6_later_48 : decode cX6_later 48 = .ok (.goto 7, 3) := by decide +kernel
theorem dX6_later_51 : decode cX6_later 51 = .ok (.aload_n 3, 1) := by decide +kernel
theorem dX6_later_52 : decode cX6_later 52 = .ok (.getfield 208, 3) := by decide +kernel
theorem dX6_later_55 : decode cX6_later 55 = .ok (.ireturn, 1) := by decide +kernel
theorem dX6_wakes_0 : decode cX6_wakes 0 = .ok (.aload_n 0, 1) := by decide +kernel
theorem dX6_wakes_1 : decode cX6_wakes 1 = .ok (.getfield 26, 3) := by decide +kernel
theorem dX6_wakes_4 : decode cX6_wakes 4 = .ok (.iload_n 1, 1) := by decide +kernel
theorem dX6_wakes_5 : decode cX6_wakes 5 = .ok (.invokevirtual 154, 3) := by decide +kernel
theorem dX6_wakes_8 : decode cX6_wakes 8 = .ok (.ifCond .eq 20, 3) := by decide +kernel
theorem dX6_wakes_11 : decode cX6_wakes 11 = .ok (.aload_n 0, 1) := by decide +kernel
theorem dX6_wakes_12 : decode cX6_wakes 12 = .ok (.getfield 49, 3) := by decide +kernel
theorem dX6_wakes_15 : decode cX6_wakes 15 = .ok (.aload_n 0, 1) := by decide +kernel
theorem dX6_wakes_16 : decode cX6_wakes 16 = .ok (.getfield 26, 3) := by decide +kernel
theorem dX6_wakes_19 : decode cX6_wakes 19 = .ok (.iconst 1, 1) := by decide +kernel
theorem dX6_wakes_20 : decode cX6_wakes 20 = .ok (.iload_n 1, 1) := by decide +kernel
theorem dX6_wakes_21 : decode cX6_wakes 21 = .ok (.ishl, 1) := by decide +kernel
theorem dX6_wakes_22 : decode cX6_wakes 22 = .ok (.invokevirtual 211, 3) := by decide +kernel
theorem dX6_wakes_25 : decode cX6_wakes 25 = .ok (.goto 5, 3) := by decide +kernel
theorem dX6_wakes_28 : decode cX6_wakes 28 = .ok (.ldc 64, 2) := by decide +kernel
theorem dX6_wakes_30 : decode cX6_wakes 30 = .ok (.ireturn, 1) := by decide +kernel
theorem dX6_alarm_0 : decode cX6_alarm 0 = .ok (.aload_n 0, 1) := by decide +kernel
theorem dX6_alarm_1 : decode cX6_alarm 1 = .ok (.invokevirtual 133, 3) := by decide +kernel
theorem dX6_alarm_4 : decode cX6_alarm 4 = .ok (.ifCond .eq 8, 3) := by decide +kernel
theorem dX6_alarm_7 : decode cX6_alarm 7 = .ok (.ldc 137, 2) := by decide +kernel
theorem dX6_alarm_9 : decode cX6_alarm 9 = .ok (.goto 21, 3) := by decide +kernel
theorem dX6_alarm_12 : decode cX6_alarm 12 = .ok (.aload_n 0, 1) := by decide +kernel
theorem dX6_alarm_13 : decode cX6_alarm 13 = .ok (.getfield 49, 3) := by decide +kernel
theorem dX6_alarm_16 : decode cX6_alarm 16 = .ok (.aload_n 0, 1) := by decide +kernel
theorem dX6_alarm_17 : decode cX6_alarm 17 = .ok (.getfield 26, 3) := by decide +kernel
theorem dX6_alarm_20 : decode cX6_alarm 20 = .ok (.aload_n 0, 1) := by decide +kernel
theorem dX6_alarm_21 : decode cX6_alarm 21 = .ok (.getfield 26, 3) := by decide +kernel
theorem dX6_alarm_24 : decode cX6_alarm 24 = .ok (.invokevirtual 215, 3) := by decide +kernel
theorem dX6_alarm_27 : decode cX6_alarm 27 = .ok (.invokevirtual 211, 3) := by decide +kernel
theorem dX6_alarm_30 : decode cX6_alarm 30 = .ok (.ireturn, 1) := by decide +kernel
theorem dX6_tune_0 : decode cX6_tune 0 = .ok (.aload_n 0, 1) := by decide +kernel
theorem dX6_tune_1 : decode cX6_tune 1 = .ok (.invokevirtual 133, 3) := by decide +kernel
theorem dX6_tune_4 : decode cX6_tune 4 = .ok (.ifCond .eq 6, 3) := by decide +kernel
theorem dX6_tune_7 : decode cX6_tune 7 = .ok (.ldc 137, 2) := by decide +kernel
theorem dX6_tune_9 : decode cX6_tune 9 = .ok (.ireturn, 1) := by decide +kernel
theorem dX6_tune_10 : decode cX6_tune 10 = .ok (.iload_n 1, 1) := by decide +kernel
theorem dX6_tune_11 : decode cX6_tune 11 = .ok (.iconst 1, 1) := by decide +kernel
theorem dX6_tune_12 : decode cX6_tune 12 = .ok (.if_icmp .lt 24, 3) := by decide +kernel
theorem dX6_tune_15 : decode cX6_tune 15 = .ok (.iload_n 1, 1) := by decide +kernel
theorem dX6_tune_16 : decode cX6_tune 16 = .ok (.iconst 4, 1) := by decide +kernel
theorem dX6_tune_17 : decode cX6_tune 17 = .ok (.if_icmp .gt 19, 3) := by decide +kernel
theorem dX6_tune_20 : decode cX6_tune 20 = .ok (.iload_n 2, 1) := by decide +kernel
theorem dX6_tune_21 : decode cX6_tune 21 = .ok (.iconst 1, 1) := by decide +kernel
theorem dX6_tune_22 : decode cX6_tune 22 = .ok (.if_icmp .lt 14, 3) := by decide +kernel
theorem dX6_tune_25 : decode cX6_tune 25 = .ok (.iload_n 2, 1) := by decide +kernel
theorem dX6_tune_26 : decode cX6_tune 26 = .ok (.bipush 12, 2) := by decide +kernel
theorem dX6_tune_28 : decode cX6_tune 28 = .ok (.if_icmp .gt 8, 3) := by decide +kernel
theorem dX6_tune_31 : decode cX6_tune 31 = .ok (.iload_n 3, 1) := by decide +kernel
theorem dX6_tune_32 : decode cX6_tune 32 = .ok (.iconst (-1), 1) := by decide +kernel
theorem dX6_tune_33 : decode cX6_tune 33 = .ok (.if_icmp .ge 6, 3) := by decide +kernel
theorem dX6_tune_36 : decode cX6_tune 36 = .ok (.ldc 64, 2) := by decide +kernel
theorem dX6_tune_38 : decode cX6_tune 38 = .ok (.ireturn, 1) := by decide +kernel
theorem dX6_tune_39 : decode cX6_tune 39 = .ok (.iload_n 3, 1) := by decide +kernel
theorem dX6_tune_40 : decode cX6_tune 40 = .ok (.iload_n 1, 1) := by decide +kernel
theorem dX6_tune_41 : decode cX6_tune 41 = .ok (.if_icmp .lt 6, 3) := by decide +kernel
theorem dX6_tune_44 : decode cX6_tune 44 = .ok (.ldc 218, 2) := by decide +kernel
theorem dX6_tune_46 : decode cX6_tune 46 = .ok (.ireturn, 1) := by decide +kernel
theorem dX6_tune_47 : decode cX6_tune 47 = .ok (.aload_n 0, 1) := by decide +kernel
theorem dX6_tune_48 : decode cX6_tune 48 = .ok (.getfield 49, 3) := by decide +kernel
theorem dX6_tune_51 : decode cX6_tune 51 = .ok (.aload_n 0, 1) := by decide +kernel
theorem dX6_tune_52 : decode cX6_tune 52 = .ok (.getfield 26, 3) := by decide +kernel
theorem dX6_tune_55 : decode cX6_tune 55 = .ok (.iload_n 1, 1) := by decide +kernel
theorem dX6_tune_56 : decode cX6_tune 56 = .ok (.iload_n 2, 1) := by decide +kernel
theorem dX6_tune_57 : decode cX6_tune 57 = .ok (.invokevirtual 219, 3) := by decide +kernel
theorem dX6_tune_60 : decode cX6_tune 60 = .ok (.iload_n 3, 1) := by decide +kernel
theorem dX6_tune_61 : decode cX6_tune 61 = .ok (.ifCond .ge 13, 3) := by decide +kernel
theorem dX6_tune_64 : decode cX6_tune 64 = .ok (.aload_n 0, 1) := by decide +kernel
theorem dX6_tune_65 : decode cX6_tune 65 = .ok (.getfield 49, 3) := by decide +kernel
theorem dX6_tune_68 : decode cX6_tune 68 = .ok (.getfield 223, 3) := by decide +kernel
theorem dX6_tune_71 : decode cX6_tune 71 = .ok (.goto 19, 3) := by decide +kernel
theorem dX6_tune_74 : decode cX6_tune 74 = .ok (.aload_n 0, 1) := by decide +kernel
theorem dX6_tune_75 : decode cX6_tune 75 = .ok (.getfield 49, 3) := by decide +kernel
theorem dX6_tune_78 : decode cX6_tune 78 = .ok (.aload_n 0, 1) := by decide +kernel
theorem dX6_tune_79 : decode cX6_tune 79 = .ok (.getfield 26, 3) := by decide +kernel
theorem dX6_tune_82 : decode cX6_tune 82 = .ok (.getfield 127, 3) := by decide +kernel
theorem dX6_tune_85 : decode cX6_tune 85 = .ok (.iload_n 1, 1) := by decide +kernel
theorem dX6_tune_86 : decode cX6_tune 86 = .ok (.iload_n 3, 1) := by decide +kernel
theorem dX6_tune_87 : decode cX6_tune 87 = .ok (.invokevirtual 226, 3) := by decide +kernel
theorem dX6_tune_90 : decode cX6_tune 90 = .ok (.ireturn, 1) := by decide +kernel
theorem dX6_shift_0 : decode cX6_shift 0 = .ok (.aload_n 0, 1) := by decide +kernel
theorem dX6_shift_1 : decode cX6_shift 1 = .ok (.invokevirtual 133, 3) := by decide +kernel
theorem dX6_shift_4 : decode cX6_shift 4 = .ok (.ifCond .eq 6, 3) := by decide +kernel
theorem dX6_shift_7 : decode cX6_shift 7 = .ok (.ldc 137, 2) := by decide +kernel
theorem dX6_shift_9 : decode cX6_shift 9 = .ok (.ireturn, 1) := by decide +kernel
theorem dX6_shift_10 : decode cX6_shift 10 = .ok (.iload_n 1, 1) := by decide +kernel
theorem dX6_shift_11 : decode cX6_shift 11 = .ok (.iconst 1, 1) := by decide +kernel
theorem dX6_shift_12 : decode cX6_shift 12 = .ok (.if_icmp .lt 16, 3) := by decide +kernel
theorem dX6_shift_15 : decode cX6_shift 15 = .ok (.iload_n 1, 1) := by decide +kernel
theorem dX6_shift_16 : decode cX6_shift 16 = .ok (.bipush 30, 2) := by decide +kernel
theorem dX6_shift_18 : decode cX6_shift 18 = .ok (.if_icmp .gt 10, 3) := by decide +kernel
theorem dX6_shift_21 : decode cX6_shift 21 = .ok (.iload_n 2, 1) := by decide +kernel
theorem dX6_shift_22 : decode cX6_shift 22 = .ok (.invokestatic 201, 3) := by decide +kernel
theorem dX6_shift_25 : decode cX6_shift 25 = .ok (.ifCond .eq 6, 3) := by decide +kernel
theorem dX6_shift_28 : decode cX6_shift 28 = .ok (.ldc 64, 2) := by decide +kernel
theorem dX6_shift_30 : decode cX6_shift 30 = .ok (.ireturn, 1) := by decide +kernel
theorem dX6_shift_31 : decode cX6_shift 31 = .ok (.aload_n 0, 1) := by decide +kernel
theorem dX6_shift_32 : decode cX6_shift 32 = .ok (.getfield 49, 3) := by decide +kernel
theorem dX6_shift_35 : decode cX6_shift 35 = .ok (.aload_n 0, 1) := by decide +kernel
theorem dX6_shift_36 : decode cX6_shift 36 = .ok (.getfield 26, 3) := by decide +kernel
theorem dX6_shift_39 : decode cX6_shift 39 = .ok (.iload_n 1, 1) := by decide +kernel
theorem dX6_shift_40 : decode cX6_shift 40 = .ok (.invokevirtual 229, 3) := by decide +kernel
theorem dX6_shift_43 : decode cX6_shift 43 = .ok (.istore_n 3, 1) := by decide +kernel
theorem dX6_shift_44 : decode cX6_shift 44 = .ok (.iload_n 2, 1) := by decide +kernel
theorem dX6_shift_45 : decode cX6_shift 45 = .ok (.ifCond .eq 9, 3) := by decide +kernel
theorem dX6_shift_48 : decode cX6_shift 48 = .ok (.iload_n 3, 1) := by decide +kernel
theorem dX6_shift_49 : decode cX6_shift 49 = .ok (.ldc 218, 2) := by decide +kernel
