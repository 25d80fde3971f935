theorem dX9_tithe_6 : decode cX9_tithe 6 = .ok (.iload_n 1, 1) := by decide +kernel
theorem dX9_tithe_7 : decode cX9_tithe 7 = .ok (.iaload, 1) := by decide +kernel
theorem dX9_tithe_8 : decode cX9_tithe 8 = .ok (.isub, 1) := by decide +kernel
theorem dX9_tithe_9 : decode cX9_tithe 9 = .ok (.ireturn, 1) := by decide +kernel
theorem dX9_ofCell_0 : decode cX9_ofCell 0 = .ok (.aload_n 0, 1) := by decide +kernel
theorem dX9_ofCell_1 : decode cX9_ofCell 1 = .ok (.iload_n 1, 1) := by decide +kernel
theorem dX9_ofCell_2 : decode cX9_ofCell 2 = .ok (.invokevirtual 133, 3) := by decide +kernel
theorem dX9_ofCell_5 : decode cX9_ofCell 5 = .ok (.ifCond .ne 5, 3) := by decide +kernel
theorem dX9_ofCell_8 : decode cX9_ofCell 8 = .ok (.iconst (-1), 1) := by decide +kernel
theorem dX9_ofCell_9 : decode cX9_ofCell 9 = .ok (.ireturn, 1) := by decide +kernel
theorem dX9_ofCell_10 : decode cX9_ofCell 10 = .ok (.iload_n 2, 1) := by decide +kernel
theorem dX9_ofCell_11 : decode cX9_ofCell 11 = .ok (.tableswitch 63 0 3 #[29, 36, 42, 57], 29) := by decide +kernel
theorem dX9_ofCell_40 : decode cX9_ofCell 40 = .ok (.aload_n 0, 1) := by decide +kernel
theorem dX9_ofCell_41 : decode cX9_ofCell 41 = .ok (.getfield 19, 3) := by decide +kernel
theorem dX9_ofCell_44 : decode cX9_ofCell 44 = .ok (.iload_n 1, 1) := by decide +kernel
theorem dX9_ofCell_45 : decode cX9_ofCell 45 = .ok (.iaload, 1) := by decide +kernel
theorem dX9_ofCell_46 : decode cX9_ofCell 46 = .ok (.ireturn, 1) := by decide +kernel
theorem dX9_ofCell_47 : decode cX9_ofCell 47 = .ok (.aload_n 0, 1) := by decide +kernel
theorem dX9_ofCell_48 : decode cX9_ofCell 48 = .ok (.iload_n 1, 1) := by decide +kernel
theorem dX9_ofCell_49 : decode cX9_ofCell 49 = .ok (.invokevirtual 136, 3) := by decide +kernel
theorem dX9_ofCell_52 : decode cX9_ofCell 52 = .ok (.ireturn, 1) := by decide +kernel
theorem dX9_ofCell_53 : decode cX9_ofCell 53 = .ok (.aload_n 0, 1) := by decide +kernel
theorem dX9_ofCell_54 : decode cX9_ofCell 54 = .ok (.getfield 22, 3) := by decide +kernel
theorem dX9_ofCell_57 : decode cX9_ofCell 57 = .ok (.iload_n 1, 1) := by decide +kernel
theorem dX9_ofCell_58 : decode cX9_ofCell 58 = .ok (.baload, 1) := by decide +kernel
theorem dX9_ofCell_59 : decode cX9_ofCell 59 = .ok (.ifCond .eq 7, 3) := by decide +kernel
theorem dX9_ofCell_62 : decode cX9_ofCell 62 = .ok (.iconst 1, 1) := by decide +kernel
theorem dX9_ofCell_63 : decode cX9_ofCell 63 = .ok (.goto 4, 3) := by decide +kernel
theorem dX9_ofCell_66 : decode cX9_ofCell 66 = .ok (.iconst 0, 1) := by decide +kernel
theorem dX9_ofCell_67 : decode cX9_ofCell 67 = .ok (.ireturn, 1) := by decide +kernel
theorem dX9_ofCell_68 : decode cX9_ofCell 68 = .ok (.aload_n 0, 1) := by decide +kernel
theorem dX9_ofCell_69 : decode cX9_ofCell 69 = .ok (.iload_n 1, 1) := by decide +kernel
theorem dX9_ofCell_70 : decode cX9_ofCell 70 = .ok (.invokevirtual 139, 3) := by decide +kernel
theorem dX9_ofCell_73 : decode cX9_ofCell 73 = .ok (.ireturn, 1) := by decide +kernel
theorem dX9_ofCell_74 : decode cX9_ofCell 74 = .ok (.bipush (-2), 2) := by decide +kernel
theorem dX9_ofCell_76 : decode cX9_ofCell 76 = .ok (.ireturn, 1) := by decide +kernel
theorem dX9_hanging_0 : decode cX9_hanging 0 = .ok (.iconst 0, 1) := by decide +kernel
theorem dX9_hanging_1 : decode cX9_hanging 1 = .ok (.istore_n 2, 1) := by decide +kernel
theorem dX9_hanging_2 : decode cX9_hanging 2 = .ok (.iconst 0, 1) := by decide +kernel
theorem dX9_hanging_3 : decode cX9_hanging 3 = .ok (.istore_n 3, 1) := by decide +kernel
theorem dX9_hanging_4 : decode cX9_hanging 4 = .ok (.iload_n 3, 1) := by decide +kernel
theorem dX9_hanging_5 : decode cX9_hanging 5 = .ok (.aload_n 0, 1) := by decide +kernel
theorem dX9_hanging_6 : decode cX9_hanging 6 = .ok (.getfield 116, 3) := by decide +kernel
theorem dX9_hanging_9 : decode cX9_hanging 9 = .ok (.if_icmp .ge 27, 3) := by decide +kernel
theorem dX9_hanging_12 : decode cX9_hanging 12 = .ok (.iload_n 2, 1) := by decide +kernel
theorem dX9_hanging_13 : decode cX9_hanging 13 = .ok (.aload_n 0, 1) := by decide +kernel
theorem dX9_hanging_14 : decode cX9_hanging 14 = .ok (.getfield 32, 3) := by decide +kernel
theorem dX9_hanging_17 : decode cX9_hanging 17 = .ok (.iload_n 3, 1) := by decide +kernel
theorem dX9_hanging_18 : decode cX9_hanging 18 = .ok (.iaload, 1) := by decide +kernel
theorem dX9_hanging_19 : decode cX9_hanging 19 = .ok (.iload_n 1, 1) := by decide +kernel
theorem dX9_hanging_20 : decode cX9_hanging 20 = .ok (.if_icmp .ne 7, 3) := by decide +kernel
theorem dX9_hanging_23 : decode cX9_hanging 23 = .ok (.iconst 1, 1) := by decide +kernel
theorem dX9_hanging_24 : decode cX9_hanging 24 = .ok (.goto 4, 3) := by decide +kernel
theorem dX9_hanging_27 : decode cX9_hanging 27 = .ok (.iconst 0, 1) := by decide +kernel
theorem dX9_hanging_28 : decode cX9_hanging 28 = .ok (.iadd, 1) := by decide +kernel
theorem dX9_hanging_29 : decode cX9_hanging 29 = .ok (.istore_n 2, 1) := by decide +kernel
theorem dX9_hanging_30 : decode cX9_hanging 30 = .ok (.iinc 3 1, 3) := by decide +kernel
theorem dX9_hanging_33 : decode cX9_hanging 33 = .ok (.goto (-29), 3) := by decide +kernel
theorem dX9_hanging_36 : decode cX9_hanging 36 = .ok (.iload_n 2, 1) := by decide +kernel
theorem dX9_hanging_37 : decode cX9_hanging 37 = .ok (.ireturn, 1) := by decide +kernel
theorem dX9_plant_0 : decode cX9_plant 0 = .ok (.aload_n 0, 1) := by decide +kernel
theorem dX9_plant_1 : decode cX9_plant 1 = .ok (.iload_n 1, 1) := by decide +kernel
theorem dX9_plant_2 : decode cX9_plant 2 = .ok (.invokevirtual 133, 3) := by decide +kernel
theorem dX9_plant_5 : decode cX9_plant 5 = .ok (.ifCond .ne 5, 3) := by decide +kernel
theorem dX9_plant_8 : decode cX9_plant 8 = .ok (.iconst (-1), 1) := by decide +kernel
theorem dX9_plant_9 : decode cX9_plant 9 = .ok (.ireturn, 1) := by decide +kernel
theorem dX9_plant_10 : decode cX9_plant 10 = .ok (.aload_n 0, 1) := by decide +kernel
theorem dX9_plant_11 : decode cX9_plant 11 = .ok (.getfield 22, 3) := by decide +kernel
theorem dX9_plant_14 : decode cX9_plant 14 = .ok (.iload_n 1, 1) := by decide +kernel
theorem dX9_plant_15 : decode cX9_plant 15 = .ok (.baload, 1) := by decide +kernel
theorem dX9_plant_16 : decode cX9_plant 16 = .ok (.istore_n 3, 1) := by decide +kernel
theorem dX9_plant_17 : decode cX9_plant 17 = .ok (.aload_n 0, 1) := by decide +kernel
theorem dX9_plant_18 : decode cX9_plant 18 = .ok (.getfield 22, 3) := by decide +kernel
theorem dX9_plant_21 : decode cX9_plant 21 = .ok (.iload_n 1, 1) := by decide +kernel
theorem dX9_plant_22 : decode cX9_plant 22 = .ok (.iload_n 2, 1) := by decide +kernel
theorem dX9_plant_23 : decode cX9_plant 23 = .ok (.bastore, 1) := by decide +kernel
theorem dX9_plant_24 : decode cX9_plant 24 = .ok (.iload_n 3, 1) := by decide +kernel
theorem dX9_plant_25 : decode cX9_plant 25 = .ok (.iload_n 2, 1) := by decide +kernel
theorem dX9_plant_26 : decode cX9_plant 26 = .ok (.if_icmp .ne 7, 3) := by decide +kernel
theorem dX9_plant_29 : decode cX9_plant 29 = .ok (.iconst 0, 1) := by decide +kernel
theorem dX9_plant_30 : decode cX9_plant 30 = .ok (.goto 4, 3) := by decide +kernel
theorem dX9_plant_33 : decode cX9_plant 33 = .ok (.iconst 1, 1) := by decide +kernel
theorem dX9_plant_34 : decode cX9_plant 34 = .ok (.ireturn, 1) := by decide +kernel
theorem dX9_ear_0 : decode cX9_ear 0 = .ok (.iload_n 1, 1) := by decide +kernel
theorem dX9_ear_1 : decode cX9_ear 1 = .ok (.iconst 0, 1) := by decide +kernel
theorem dX9_ear_2 : decode cX9_ear 2 = .ok (.bipush 99, 2) := by decide +kernel
theorem dX9_ear_4 : decode cX9_ear 4 = .ok (.invokestatic 75, 3) := by decide +kernel
theorem dX9_ear_7 : decode cX9_ear 7 = .ok (.ifCond .ne 6, 3) := by decide +kernel
theorem dX9_ear_10 : decode cX9_ear 10 = .ok (.bipush (-2), 2) := by decide +kernel
theorem dX9_ear_12 : decode cX9_ear 12 = .ok (.ireturn, 1) := by decide +kernel
theorem dX9_ear_13 : decode cX9_ear 13 = .ok (.aload_n 0, 1) := by decide +kernel
theorem dX9_ear_14 : decode cX9_ear 14 = .ok (.invokevirtual 85, 3) := by decide +kernel
theorem dX9_ear_17 : decode cX9_ear 17 = .ok (.ifCond .ne 6, 3) := by decide +kernel
theorem dX9_ear_20 : decode cX9_ear 20 = .ok (.bipush (-3), 2) := by decide +kernel
theorem dX9_ear_22 : decode cX9_ear 22 = .ok (.ireturn, 1) := by decide +kernel
theorem dX9_ear_23 : decode cX9_ear 23 = .ok (.aload_n 0, 1) := by decide +kernel
theorem dX9_ear_24 : decode cX9_ear 24 = .ok (.getfield 122, 3) := by decide +kernel
theorem dX9_ear_27 : decode cX9_ear 27 = .ok (.istore_n 2, 1) := by decide +kernel
theorem dX9_ear_28 : decode cX9_ear 28 = .ok (.aload_n 0, 1) := by decide +kernel
theorem dX9_ear_29 : decode cX9_ear 29 = .ok (.iload_n 1, 1) := by decide +kernel
theorem dX9_ear_30 : decode cX9_ear 30 = .ok (.putfield 122, 3) := by decide +kernel
theorem dX9_ear_33 : decode cX9_ear 33 = .ok (.iload_n 2, 1) := by decide +kernel
theorem dX9_ear_34 : decode cX9_ear 34 = .ok (.ireturn, 1) := by decide +kernel
theorem dX9_isBell_0 : decode cX9_isBell 0 = .ok (.iload_n 1, 1) := by decide +kernel
theorem dX9_isBell_1 : decode cX9_isBell 1 = .ok (.ifCond .lt 15, 3) := by decide +kernel
theorem dX9_isBell_4 : decode cX9_isBell 4 = .ok (.iload_n 1, 1) := by decide +kernel
theorem dX9_isBell_5 : decode cX9_isBell 5 = .ok (.aload_n 0, 1) := by decide +kernel
theorem dX9_isBell_6 : decode cX9_isBell 6 = .ok (.getfield 116, 3) := by decide +kernel
theorem dX9_isBell_9 : decode cX9_isBell 9 = .ok (.if_icmp .ge 7, 3) := by decide +kernel
theorem dX9_isBell_12 : decode cX9_isBell 12 = .ok (.iconst 1, 1) := by decide +kernel
theorem dX9_isBell_13 : decode cX9_isBell 13 = .ok (.goto 4, 3) := by decide +kernel
theorem dX9_isBell_16 : decode cX9_isBell 16 = .ok (.iconst 0, 1) := by decide +kernel
theorem dX9_isBell_17 : decode cX9_isBell 17 = .ok (.ireturn, 1) := by decide +kernel
theorem dX9_isWeight_0 : decode cX9_isWeight 0 = .ok (.iload_n 0, 1) := by decide +kernel
theorem dX9_isWeight_1 : decode cX9_isWeight 1 = .ok (.iconst 1, 1) := by decide +kernel
theorem dX9_isWeight_2 : decode cX9_isWeight 2 = .ok (.bipush 99, 2) := by decide +kernel
theorem dX9_isWeight_4 : decode cX9_isWeight 4 = .ok (.invokestatic 75, 3) := by decide +kernel
theorem dX9_isWeight_7 : decode cX9_isWeight 7 = .ok (.ireturn, 1) := by decide +kernel
theorem dX9_isWind_0 : decode cX9_isWind 0 = .ok (.iload_n 0, 1) := by decide +kernel
theorem dX9_isWind_1 : decode cX9_isWind 1 = .ok (.iconst 0, 1) := by decide +kernel
theorem dX9_isWind_2 : decode cX9_isWind 2 = .ok (.bipush 39, 2) := by decide +kernel
theorem dX9_isWind_4 : decode cX9_isWind 4 = .ok (.invokestatic 75, 3) := by decide +kernel
theorem dX9_isWind_7 : decode cX9_isWind 7 = .ok (.ireturn, 1) := by decide +kernel
theorem dX9_bell_0 : decode cX9_bell 0 = .ok (.aload_n 0, 1) := by decide +kernel
theorem dX9_bell_1 : decode cX9_bell 1 = .ok (.iload_n 2, 1) := by decide +kernel
theorem dX9_bell_2 : decode cX9_bell 2 = .ok (.invokevirtual 133, 3) := by decide +kernel
theorem dX9_bell_5 : decode cX9_bell 5 = .ok (.ifCond .ne 5, 3) := by decide +kernel
theorem dX9_bell_8 : decode cX9_bell 8 = .ok (.iconst (-1), 1) := by decide +kernel
theorem dX9_bell_9 : decode cX9_bell 9 = .ok (.ireturn, 1) := by decide +kernel
theorem dX9_bell_10 : decode cX9_bell 10 = .ok (.iload_n 1, 1) := by decide +kernel
theorem dX9_bell_11 : decode cX9_bell 11 = .ok (.iconst 0, 1) := by decide +kernel
theorem dX9_bell_12 : decode cX9_bell 12 = .ok (.iconst 2, 1) := by decide +kernel
theorem dX9_bell_13 : decode cX9_bell 13 = .ok (.invokestatic 75, 3) := by decide +kernel
theorem dX9_bell_16 : decode cX9_bell 16 = .ok (.ifCond .eq 10, 3) := by decide +kernel
theorem dX9_bell_19 : decode cX9_bell 19 = .ok (.iload_n 3, 1) := by decide +kernel
theorem dX9_bell_20 : decode cX9_bell 20 = .ok (.invokestatic 142, 3) := by decide +kernel
theorem dX9_bell_23 : decode cX9_bell 23 = .ok (.ifCond .ne 6, 3) := by decide +kernel
theorem dX9_bell_26 : decode cX9_bell 26 = .ok (.bipush (-2), 2) := by decide +kernel
theorem dX9_bell_28 : decode cX9_bell 28 = .ok (.ireturn, 1) := by decide +kernel
theorem dX9_bell_29 : decode cX9_bell 29 = .ok (.aload_n 0, 1) := by decide +kernel
theorem dX9_bell_30 : decode cX9_bell 30 = .ok (.getfield 116, 3) := by decide +kernel
theorem dX9_bell_33 : decode cX9_bell 33 = .ok (.bipush 6, 2) := by decide +kernel
theorem dX9_bell_35 : decode cX9_bell 35 = .ok (.if_icmp .ne 6, 3) := by decide +kernel
theorem dX9_bell_38 : decode cX9_bell 38 = .ok (.bipush (-4), 2) := by decide +kernel
theorem dX9_bell_40 : decode cX9_bell 40 = .ok (.ireturn, 1) := by decide +kernel
theorem dX9_bell_41 : decode cX9_bell 41 = .ok (.aload_n 0, 1) := by decide +kernel
theorem dX9_bell_42 : decode cX9_bell 42 = .ok (.getfield 29, 3) := by decide +kernel
theorem dX9_bell_45 : decode cX9_bell 45 = .ok (.aload_n 0, 1) := by decide +kernel
theorem dX9_bell_46 : decode cX9_bell 46 = .ok (.getfield 116, 3) := by decide +kernel
theorem dX9_bell_49 : decode cX9_bell 49 = .ok (.iload_n 1, 1) := by decide +kernel
theorem dX9_bell_50 : decode cX9_bell 50 = .ok (.iastore, 1) := by decide +kernel
theorem dX9_bell_51 : decode cX9_bell 51 = .ok (.aload_n 0, 1) := by decide +kernel
theorem dX9_bell_52 : decode cX9_bell 52 = .ok (.getfield 32, 3) := by decide +kernel
theorem dX9_bell_55 : decode cX9_bell 55 = .ok (.aload_n 0, 1) := by decide +kernel
theorem dX9_bell_56 : decode cX9_bell 56 = .ok (.getfield 116, 3) := by decide +kernel
theorem dX9_bell_59 : decode cX9_bell 59 = .ok (.iload_n 2, 1) := by decide +kernel
theorem dX9_bell_60 : decode cX9_bell 60 = .ok (.iastore, 1) := by decide +kernel
theorem dX9_bell_61 : decode cX9_bell 61 = .ok (.aload_n 0, 1) := by decide +kernel
theorem dX9_bell_62 : decode cX9_bell 62 = .ok (.getfield 35, 3) := by decide +kernel
theorem dX9_bell_65 : decode cX9_bell 65 = .ok (.aload_n 0, 1) := by decide +kernel
theorem dX9_bell_66 : decode cX9_bell 66 = .ok (.getfield 116, 3) := by decide +kernel
theorem dX9_bell_69 : decode cX9_bell 69 = .ok (.iload_n 3, 1) := by decide +kernel
theorem dX9_bell_70 : decode cX9_bell 70 = .ok (.iastore, 1) := by decide +kernel
theorem dX9_bell_71 : decode cX9_bell 71 = .ok (.aload_n 0, 1) := by decide +kernel
theorem dX9_bell_72 : decode cX9_bell 72 = .ok (.dup, 1) := by decide +kernel
theorem dX9_bell_73 : decode cX9_bell 73 = .ok (.getfield 116, 3) := by decide +kernel
theorem dX9_bell_76 : decode cX9_bell 76 = .ok (.iconst 1, 1) := by decide +kernel
theorem dX9_bell_77 : decode cX9_bell 77 = .ok (.iadd, 1) := by decide +kernel
theorem dX9_bell_78 : decode cX9_bell 78 = .ok (.putfield 116, 3) := by decide +kernel
theorem dX9_bell_81 : decode cX9_bell 81 = .ok (.aload_n 0, 1) := by decide +kernel
theorem dX9_bell_82 : decode cX9_bell 82 = .ok (.getfield 116, 3) := by decide +kernel
theorem dX9_bell_85 : decode cX9_bell 85 = .ok (.iconst 1, 1) := by decide +kernel
theorem dX9_bell_86 : decode cX9_bell 86 = .ok (.isub, 1) := by decide +kernel
theorem dX9_bell_87 : decode cX9_bell 87 = .ok (.ireturn, 1) := by decide +kernel
theorem dX9_ofBell_0 : decode cX9_ofBell 0 = .ok (.aload_n 0, 1) := by decide +kernel
theorem dX9_ofBell_1 : decode cX9_ofBell 1 = .ok (.iload_n 1, 1) := by decide +kernel
theorem dX9_ofBell_2 : decode cX9_ofBell 2 = .ok (.invokevirtual 145, 3) := by decide +kernel
theorem dX9_ofBell_5 : decode cX9_ofBell 5 = .ok (.ifCond .ne 5, 3) := by decide +kernel
theorem dX9_ofBell_8 : decode cX9_ofBell 8 = .ok (.iconst (-1), 1) := by decide +kernel
theorem dX9_ofBell_9 : decode cX9_ofBell 9 = .ok (.ireturn, 1) := by decide +kernel
theorem dX9_ofBell_10 : decode cX9_ofBell 10 = .ok (.iload_n 2, 1) := by decide +kernel
theorem dX9_ofBell_11 : decode cX9_ofBell 11 = .ok (.ifCond .ne 12, 3) := by decide +kernel
theorem dX9_ofBell_14 : decode cX9_ofBell 14 = .ok (.aload_n 0, 1) := by decide +kernel
theorem dX9_ofBell_15 : decode cX9_ofBell 15 = .ok (.getfield 29, 3) := by decide +kernel
theorem dX9_ofBell_18 : decode cX9_ofBell 18 = .ok (.iload_n 1, 1) := by decide +kernel
theorem dX9_ofBell_19 : decode cX9_ofBell 19 = .ok (.iaload, 1) := by decide +kernel
theorem dX9_ofBell_20 : decode cX9_ofBell 20 = .ok (.goto 33, 3) := by decide +kernel
theorem dX9_ofBell_23 : decode cX9_ofBell 23 = .ok (.iload_n 2, 1) := by decide +kernel
theorem dX9_ofBell_24 : decode cX9_ofBell 24 = .ok (.iconst 1, 1) := by decide +kernel
theorem dX9_ofBell_25 : decode cX9_ofBell 25 = .ok (.if_icmp .ne 12, 3) := by decide +kernel
theorem dX9_ofBell_28 : decode cX9_ofBell 28 = .ok (.aload_n 0, 1) := by decide +kernel
theorem dX9_ofBell_29 : decode cX9_ofBell 29 = .ok (.getfield 32, 3) := by decide +kernel
theorem dX9_ofBell_32 : decode cX9_ofBell 32 = .ok (.iload_n 1, 1) := by decide +kernel
theorem dX9_ofBell_33 : decode cX9_ofBell 33 = .ok (.iaload, 1) := by decide +kernel
theorem dX9_ofBell_34 : decode cX9_ofBell 34 = .ok (.goto 19, 3) := by decide +kernel
theorem dX9_ofBell_37 : decode cX9_ofBell 37 = .ok (.iload_n 2, 1) := by decide +kernel
theorem dX9_ofBell_38 : decode cX9_ofBell 38 = .ok (.iconst 2, 1) := by decide +kernel
theorem dX9_ofBell_39 : decode cX9_ofBell 39 = .ok (.if_icmp .ne 12, 3) := by decide +kernel
theorem dX9_ofBell_42 : decode cX9_ofBell 42 = .ok (.aload_n 0, 1) := by decide +kernel
theorem dX9_ofBell_43 : decode cX9_ofBell 43 = .ok (.getfield 35, 3) := by decide +kernel
theorem dX9_ofBell_46 : decode cX9_ofBell 46 = .ok (.iload_n 1, 1) := by decide +kernel
theorem dX9_ofBell_47 : decode cX9_ofBell 47 = .ok (.iaload, 1) := by decide +kernel
theorem dX9_ofBell_48 : decode cX9_ofBell 48 = .ok (.goto 5, 3) := by decide +kernel
theorem dX9_ofBell_51 : decode cX9_ofBell 51 = .ok (.bipush (-2), 2) := by decide +kernel
theorem dX9_ofBell_53 : decode cX9_ofBell 53 = .ok (.ireturn, 1) := by decide +kernel
theorem dX9_recast_0 : decode cX9_recast 0 = .ok (.aload_n 0, 1) := by decide +kernel
theorem dX9_recast_1 : decode cX9_recast 1 = .ok (.iload_n 1, 1) := by decide +kernel
theorem dX9_recast_2 : decode cX9_recast 2 = .ok (.invokevirtual 145, 3) := by decide +kernel
theorem dX9_recast_5 : decode cX9_recast 5 = .ok (.ifCond .ne 5, 3) := by decide +kernel
theorem dX9_recast_8 : decode cX9_recast 8 = .ok (.iconst (-1), 1) := by decide +kernel
theorem dX9_recast_9 : decode cX9_recast 9 = .ok (.ireturn, 1) := by decide +kernel
theorem dX9_recast_10 : decode cX9_recast 10 = .ok (.iload_n 2, 1) := by decide +kernel
theorem dX9_recast_11 : decode cX9_recast 11 = .ok (.invokestatic 142, 3) := by decide +kernel
theorem dX9_recast_14 : decode cX9_recast 14 = .ok (.ifCond .ne 6, 3) := by decide +kernel
theorem dX9_recast_17 : decode cX9_recast 17 = .ok (.bipush (-2), 2) := by decide +kernel
theorem dX9_recast_19 : decode cX9_recast 19 = .ok (.ireturn, 1) := by decide +kernel
theorem dX9_recast_20 : decode cX9_recast 20 = .ok (.aload_n 0, 1) := by decide +kernel
theorem dX9_recast_21 : decode cX9_recast 21 = .ok (.getfield 35, 3) := by decide +kernel
theorem dX9_recast_24 : decode cX9_recast 24 = .ok (.iload_n 1, 1) := by decide +kernel
theorem dX9_recast_25 : decode cX9_recast 25 = .ok (.iaload, 1) := by decide +kernel
theorem dX9_recast_26 : decode cX9_recast 26 = .ok (.istore_n 3, 1) := by decide +kernel
theorem dX9_recast_27 : decode cX9_recast 27 = .ok (.aload_n 0, 1) := by decide +kernel
theorem dX9_recast_28 : decode cX9_recast 28 = .ok (.getfield 35, 3) := by decide +kernel
theorem dX9_recast_31 : decode cX9_recast 31 = .ok (.iload_n 1, 1) := by decide +kernel
theorem dX9_recast_32 : decode cX9_recast 32 = .ok (.iload_n 2, 1) := by decide +kernel
theorem dX9_recast_33 : decode cX9_recast 33 = .ok (.iastore, 1) := by decide +kernel
theorem dX9_recast_34 : decode cX9_recast 34 = .ok (.iload_n 3, 1) := by decide +kernel
theorem dX9_recast_35 : decode cX9_recast 35 = .ok (.ireturn, 1) := by decide +kernel
theorem dX9_size_0 : decode cX9_size 0 = .ok (.iload_n 0, 1) := by decide +kernel
theorem dX9_size_1 : decode cX9_size 1 = .ok (.ifCond .ge 8, 3) := by decide +kernel
theorem dX9_size_4 : decode cX9_size 4 = .ok (.iload_n 0, 1) := by decide +kernel
theorem dX9_size_5 : decode cX9_size 5 = .ok (.ineg, 1) := by decide +kernel
theorem dX9_size_6 : decode cX9_size 6 = .ok (.goto 4, 3) := by decide +kernel
theorem dX9_size_9 : decode cX9_size 9 = .ok (.iload_n 0, 1) := by decide +kernel
theorem dX9_size_10 : decode cX9_size 10 = .ok (.ireturn, 1) := by decide +kernel
theorem dX9_onTo_0 : decode cX9_onTo 0 = .ok (.iconst 2, 1) := by decide +kernel
theorem dX9_onTo_1 : decode cX9_onTo 1 = .ok (.iload_n 1, 1) := by decide +kernel
theorem dX9_onTo_2 : decode cX9_onTo 2 = .ok (.imul, 1) := by decide +kernel
theorem dX9_onTo_3 : decode cX9_onTo 3 = .ok (.iload_n 0, 1) := by decide +kernel
theorem dX9_onTo_4 : decode cX9_onTo 4 = .ok (.imul, 1) := by decide +kernel
theorem dX9_onTo_5 : decode cX9_onTo 5 = .ok (.istore_n 3, 1) := by decide +kernel
theorem dX9_onTo_6 : decode cX9_onTo 6 = .ok (.iload_n 3, 1) := by decide +kernel
theorem dX9_onTo_7 : decode cX9_onTo 7 = .ok (.ifCond .ge 9, 3) := by decide +kernel
theorem dX9_onTo_10 : decode cX9_onTo 10 = .ok (.iload_n 3, 1) := by decide +kernel
theorem dX9_onTo_11 : decode cX9_onTo 11 = .ok (.iload_n 2, 1) := by decide +kernel
theorem dX9_onTo_12 : decode cX9_onTo 12 = .ok (.isub, 1) := by decide +kernel
theorem dX9_onTo_13 : decode cX9_onTo 13 = .ok (.goto 6, 3) := by decide +kernel
theorem dX9_onTo_16 : decode cX9_onTo 16 = .ok (.iload_n 3, 1) := by decide +kernel
theorem dX9_onTo_17 : decode cX9_onTo 17 = .ok (.iload_n 2, 1) := by decide +kernel
theorem dX9_onTo_18 : decode cX9_onTo 18 = .ok (.iadd, 1) := by decide +kernel
theorem dX9_onTo_19 : decode cX9_onTo 19 = .ok (.iconst 2, 1) := by decide +kernel
theorem dX9_onTo_20 : decode cX9_onTo 20 = .ok (.iload_n 2, 1) := by decide +kernel
theorem dX9_onTo_21 : decode cX9_onTo 21 = .ok (.imul, 1) := by decide +kernel
theorem dX9_onTo_22 : decode cX9_onTo 22 = .ok (.idiv, 1) := by decide +kernel
theorem dX9_onTo_23 : decode cX9_onTo 23 = .ok (.ireturn, 1) := by decide +kernel
theorem dX9_findLoud_0 : decode cX9_findLoud 0 = .ok (.aload_n 0, 1) := by decide +kernel
theorem dX9_findLoud_1 : decode cX9_findLoud 1 = .ok (.getfield 32, 3) := by decide +kernel
theorem dX9_findLoud_4 : decode cX9_findLoud 4 = .ok (.iload_n 1, 1) := by decide +kernel
theorem dX9_findLoud_5 : decode cX9_findLoud 5 = .ok (.iaload, 1) := by decide +kernel
theorem dX9_findLoud_6 : decode cX9_findLoud 6 = .ok (.aload_n 0, 1) := by decide +kernel
theorem dX9_findLoud_7 : decode cX9_findLoud 7 = .ok (.getfield 82, 3) := by decide +kernel
theorem dX9_findLoud_10 : decode cX9_findLoud 10 = .ok (.idiv, 1) := by decide +kernel
theorem dX9_findLoud_11 : decode cX9_findLoud 11 = .ok (.istore 4, 2) := by decide +kernel
theorem dX9_findLoud_13 : decode cX9_findLoud 13 = .ok (.aload_n 0, 1) := by decide +kernel
theorem dX9_findLoud_14 : decode cX9_findLoud 14 = .ok (.getfield 32, 3) := by decide +kernel
theorem dX9_findLoud_17 : decode cX9_findLoud 17 = .ok (.iload_n 1, 1) := by decide +kernel
theorem dX9_findLoud_18 : decode cX9_findLoud 18 = .ok (.iaload, 1) := by decide +kernel
theorem dX9_findLoud_19 : decode cX9_findLoud 19 = .ok (.aload_n 0, 1) := by decide +kernel
theorem dX9_findLoud_20 : decode cX9_findLoud 20 = .ok (.getfield 82, 3) := by decide +kernel
theorem dX9_findLoud_23 : decode cX9_findLoud 23 = .ok (.irem, 1) := by decide +kernel
theorem dX9_findLoud_24 : decode cX9_findLoud 24 = .ok (.istore 5, 2) := by decide +kernel
theorem dX9_findLoud_26 : decode cX9_findLoud 26 = .ok (.iload_n 2, 1) := by decide +kernel
theorem dX9_findLoud_27 : decode cX9_findLoud 27 = .ok (.aload_n 0, 1) := by decide +kernel
theorem dX9_findLoud_28 : decode cX9_findLoud 28 = .ok (.getfield 82, 3) := by decide +kernel
theorem dX9_findLoud_31 : decode cX9_findLoud 31 = .ok (.idiv, 1) := by decide +kernel
theorem dX9_findLoud_32 : decode cX9_findLoud 32 = .ok (.iload 4, 2) := by decide +kernel
theorem dX9_findLoud_34 : decode cX9_findLoud 34 = .ok (.isub, 1) := by decide +kernel
theorem dX9_findLoud_35 : decode cX9_findLoud 35 = .ok (.istore 6, 2) := by decide +kernel
theorem dX9_findLoud_37 : decode cX9_findLoud 37 = .ok (.iload_n 2, 1) := by decide +kernel
theorem dX9_findLoud_38 : decode cX9_findLoud 38 = .ok (.aload_n 0, 1) := by decide +kernel
theorem dX9_findLoud_39 : decode cX9_findLoud 39 = .ok (.getfield 82, 3) := by decide +kernel
theorem dX9_findLoud_42 : decode cX9_findLoud 42 = .ok (.irem, 1) := by decide +kernel
theorem dX9_findLoud_43 : decode cX9_findLoud 43 = .ok (.iload 5, 2) := by decide +kernel
theorem dX9_findLoud_45 : decode cX9_findLoud 45 = .ok (.isub, 1) := by decide +kernel
theorem dX9_findLoud_46 : decode cX9_findLoud 46 = .ok (.istore 7, 2) := by decide +kernel
theorem dX9_findLoud_48 : decode cX9_findLoud 48 = .ok (.iload 6, 2) := by decide +kernel
theorem dX9_findLoud_50 : decode cX9_findLoud 50 = .ok (.iload 6, 2) := by decide +kernel
theorem dX9_findLoud_52 : decode cX9_findLoud 52 = .ok (.imul, 1) := by decide +kernel
theorem dX9_findLoud_53 : decode cX9_findLoud 53 = .ok (.iload 7, 2) := by decide +kernel
theorem dX9_findLoud_55 : decode cX9_findLoud 55 = .ok (.iload 7, 2) := by decide +kernel
theorem dX9_findLoud_57 : decode cX9_findLoud 57 = .ok (.imul, 1) := by decide +kernel
theorem dX9_findLoud_58 : decode cX9_findLoud 58 = .ok (.iadd, 1) := by decide +kernel
theorem dX9_findLoud_59 : decode cX9_findLoud 59 = .ok (.istore 8, 2) := by decide +kernel
theorem dX9_findLoud_61 : decode cX9_findLoud 61 = .ok (.aload_n 0, 1) := by decide +kernel
theorem dX9_findLoud_62 : decode cX9_findLoud 62 = .ok (.aload_n 0, 1) := by decide +kernel
theorem dX9_findLoud_63 : decode cX9_findLoud 63 = .ok (.getfield 29, 3) := by decide +kernel
theorem dX9_findLoud_66 : decode cX9_findLoud 66 = .ok (.iload_n 1, 1) := by decide +kernel
theorem dX9_findLoud_67 : decode cX9_findLoud 67 = .ok (.iaload, 1) := by decide +kernel
theorem dX9_findLoud_68 : decode cX9_findLoud 68 = .ok (.ifCond .ne 7, 3) := by decide +kernel
theorem dX9_findLoud_71 : decode cX9_findLoud 71 = .ok (.lconst 1, 1) := by decide +kernel
theorem dX9_findLoud_72 : decode cX9_findLoud 72 = .ok (.goto 6, 3) := by decide +kernel
theorem dX9_findLoud_75 : decode cX9_findLoud 75 = .ok (.ldc2_w 148, 3) := by decide +kernel
theorem dX9_findLoud_78 : decode cX9_findLoud 78 = .ok (.putfield 150, 3) := by decide +kernel
theorem dX9_findLoud_81 : decode cX9_findLoud 81 = .ok (.aload_n 0, 1) := by decide +kernel
theorem dX9_findLoud_82 : decode cX9_findLoud 82 = .ok (.aload_n 0, 1) := by decide +kernel
theorem dX9_findLoud_83 : decode cX9_findLoud 83 = .ok (.getfield 150, 3) := by decide +kernel
theorem dX9_findLoud_86 : decode cX9_findLoud 86 = .ok (.iload 8, 2) := by decide +kernel
theorem dX9_findLoud_88 : decode cX9_findLoud 88 = .ok (.i2l, 1) := by decide +kernel
theorem dX9_findLoud_89 : decode cX9_findLoud 89 = .ok (.ladd, 1) := by decide +kernel
theorem dX9_findLoud_90 : decode cX9_findLoud 90 = .ok (.putfield 154, 3) := by decide +kernel
theorem dX9_findLoud_93 : decode cX9_findLoud 93 = .ok (.iload 6, 2) := by decide +kernel
theorem dX9_findLoud_95 : decode cX9_findLoud 95 = .ok (.invokestatic 157, 3) := by decide +kernel
theorem dX9_findLoud_98 : decode cX9_findLoud 98 = .ok (.iload 7, 2) := by decide +kernel
theorem dX9_findLoud_100 : decode cX9_findLoud 100 = .ok (.invokestatic 157, 3) := by decide +kernel
theorem dX9_findLoud_103 : decode cX9_findLoud 103 = .ok (.if_icmp .le 11, 3) := by decide +kernel
theorem dX9_findLoud_106 : decode cX9_findLoud 106 = .ok (.iload 6, 2) := by decide +kernel
theorem dX9_findLoud_108 : decode cX9_findLoud 108 = .ok (.invokestatic 157, 3) := by decide +kernel
theorem dX9_findLoud_111 : decode cX9_findLoud 111 = .ok (.goto 8, 3) := by decide +kernel
theorem dX9_findLoud_114 : decode cX9_findLoud 114 = .ok (.iload 7, 2) := by decide +kernel
theorem dX9_findLoud_116 : decode cX9_findLoud 116 = .ok (.invokestatic 157, 3) := by decide +kernel
theorem dX9_findLoud_119 : decode cX9_findLoud 119 = .ok (.istore 9, 2) := by decide +kernel
theorem dX9_findLoud_121 : decode cX9_findLoud 121 = .ok (.iconst 1, 1) := by decide +kernel
theorem dX9_findLoud_122 : decode cX9_findLoud 122 = .ok (.istore 10, 2) := by decide +kernel
theorem dX9_findLoud_124 : decode cX9_findLoud 124 = .ok (.iload 10, 2) := by decide +kernel
theorem dX9_findLoud_126 : decode cX9_findLoud 126 = .ok (.iload 9, 2) := by decide +kernel
theorem dX9_findLoud_128 : decode cX9_findLoud 128 = .ok (.if_icmp .ge 142, 3) := by decide +kernel
theorem dX9_findLoud_131 : decode cX9_findLoud 131 = .ok (.aload_n 0, 1) := by decide +kernel
theorem dX9_findLoud_132 : decode cX9_findLoud 132 = .ok (.getfield 82, 3) := by decide +kernel
theorem dX9_findLoud_135 : decode cX9_findLoud 135 = .ok (.iload 4, 2) := by decide +kernel
theorem dX9_findLoud_137 : decode cX9_findLoud 137 = .ok (.iload 6, 2) := by decide +kernel
theorem dX9_findLoud_139 : decode cX9_findLoud 139 = .ok (.iload 10, 2) := by decide +kernel
theorem dX9_findLoud_141 : decode cX9_findLoud 141 = .ok (.iload 9, 2) := by decide +kernel
theorem dX9_findLoud_143 : decode cX9_findLoud 143 = .ok (.invokestatic 160, 3) := by decide +kernel
theorem dX9_findLoud_146 : decode cX9_findLoud 146 = .ok (.iadd, 1) := by decide +kernel
theorem dX9_findLoud_147 : decode cX9_findLoud 147 = .ok (.imul, 1) := by decide +kernel
theorem dX9_findLoud_148 : decode cX9_findLoud 148 = .ok (.iload 5, 2) := by decide +kernel
theorem dX9_findLoud_150 : decode cX9_findLoud 150 = .ok (.iadd, 1) := by decide +kernel
theorem dX9_findLoud_151 : decode cX9_findLoud 151 = .ok (.iload 7, 2) := by decide +kernel
theorem dX9_findLoud_153 : decode cX9_findLoud 153 = .ok (.iload 10, 2) := by decide +kernel
theorem dX9_findLoud_155 : decode cX9_findLoud 155 = .ok (.iload 9, 2) := by decide +kernel
theorem dX9_findLoud_157 : decode cX9_findLoud 157 = .ok (.invokestatic 160, 3) := by decide +kernel
theorem dX9_findLoud_160 : decode cX9_findLoud 160 = .ok (.iadd, 1) := by decide +kernel
theorem dX9_findLoud_161 : decode cX9_findLoud 161 = .ok (.istore 11, 2) := by decide +kernel
theorem dX9_findLoud_163 : decode cX9_findLoud 163 = .ok (.aload_n 0, 1) := by decide +kernel
theorem dX9_findLoud_164 : decode cX9_findLoud 164 = .ok (.getfield 19, 3) := by decide +kernel
theorem dX9_findLoud_167 : decode cX9_findLoud 167 = .ok (.iload 11, 2) := by decide +kernel
theorem dX9_findLoud_169 : decode cX9_findLoud 169 = .ok (.iaload, 1) := by decide +kernel
theorem dX9_findLoud_170 : decode cX9_findLoud 170 = .ok (.aload_n 0, 1) := by decide +kernel
theorem dX9_findLoud_171 : decode cX9_findLoud 171 = .ok (.getfield 19, 3) := by decide +kernel
theorem dX9_findLoud_174 : decode cX9_findLoud 174 = .ok (.aload_n 0, 1) := by decide +kernel
theorem dX9_findLoud_175 : decode cX9_findLoud 175 = .ok (.getfield 32, 3) := by decide +kernel
theorem dX9_findLoud_178 : decode cX9_findLoud 178 = .ok (.iload_n 1, 1) := by decide +kernel
theorem dX9_findLoud_179 : decode cX9_findLoud 179 = .ok (.iaload, 1) := by decide +kernel
theorem dX9_findLoud_180 : decode cX9_findLoud 180 = .ok (.iaload, 1) := by decide +kernel
theorem dX9_findLoud_181 : decode cX9_findLoud 181 = .ok (.if_icmp .le 23, 3) := by decide +kernel
theorem dX9_findLoud_184 : decode cX9_findLoud 184 = .ok (.aload_n 0, 1) := by decide +kernel
theorem dX9_findLoud_185 : decode cX9_findLoud 185 = .ok (.getfield 19, 3) := by decide +kernel
theorem dX9_findLoud_188 : decode cX9_findLoud 188 = .ok (.iload 11, 2) := by decide +kernel
theorem dX9_findLoud_190 : decode cX9_findLoud 190 = .ok (.iaload, 1) := by decide +kernel
theorem dX9_findLoud_191 : decode cX9_findLoud 191 = .ok (.aload_n 0, 1) := by decide +kernel
theorem dX9_findLoud_192 : decode cX9_findLoud 192 = .ok (.getfield 19, 3) := by decide +kernel
theorem dX9_findLoud_195 : decode cX9_findLoud 195 = .ok (.iload_n 2, 1) := by decide +kernel
theorem dX9_findLoud_196 : decode cX9_findLoud 196 = .ok (.iaload, 1) := by decide +kernel
theorem dX9_findLoud_197 : decode cX9_findLoud 197 = .ok (.if_icmp .le 7, 3) := by decide +kernel
theorem dX9_findLoud_200 : decode cX9_findLoud 200 = .ok (.iconst 1, 1) := by decide +kernel
theorem dX9_findLoud_201 : decode cX9_findLoud 201 = .ok (.goto 4, 3) := by decide +kernel
theorem dX9_findLoud_204 : decode cX9_findLoud 204 = .ok (.iconst 0, 1) := by decide +kernel
theorem dX9_findLoud_205 : decode cX9_findLoud 205 = .ok (.istore 12, 2) := by decide +kernel
theorem dX9_findLoud_207 : decode cX9_findLoud 207 = .ok (.aload_n 0, 1) := by decide +kernel
theorem dX9_findLoud_208 : decode cX9_findLoud 208 = .ok (.dup, 1) := by decide +kernel
theorem dX9_findLoud_209 : decode cX9_findLoud 209 = .ok (.getfield 154, 3) := by decide +kernel
theorem dX9_findLoud_212 : decode cX9_findLoud 212 = .ok (.iload 12, 2) := by decide +kernel
theorem dX9_findLoud_214 : decode cX9_findLoud 214 = .ok (.ifCond .eq 19, 3) := by decide +kernel
theorem dX9_findLoud_217 : decode cX9_findLoud 217 = .ok (.aload_n 0, 1) := by decide +kernel
theorem dX9_findLoud_218 : decode cX9_findLoud 218 = .ok (.getfield 29, 3) := by decide +kernel
theorem dX9_findLoud_221 : decode cX9_findLoud 221 = .ok (.iload_n 1, 1) := by decide +kernel
theorem dX9_findLoud_222 : decode cX9_findLoud 222 = .ok (.iaload, 1) := by decide +kernel
theorem dX9_findLoud_223 : decode cX9_findLoud 223 = .ok (.iconst 2, 1) := by decide +kernel
theorem dX9_findLoud_224 : decode cX9_findLoud 224 = .ok (.if_icmp .eq 9, 3) := by decide +kernel
theorem dX9_findLoud_227 : decode cX9_findLoud 227 = .ok (.ldc2_w 148, 3) := by decide +kernel
theorem dX9_findLoud_230 : decode cX9_findLoud 230 = .ok (.goto 4, 3) := by decide +kernel
theorem dX9_findLoud_233 : decode cX9_findLoud 233 = .ok (.lconst 1, 1) := by decide +kernel
theorem dX9_findLoud_234 : decode cX9_findLoud 234 = .ok (.lmul, 1) := by decide +kernel
theorem dX9_findLoud_235 : decode cX9_findLoud 235 = .ok (.putfield 154, 3) := by decide +kernel
theorem dX9_findLoud_238 : decode cX9_findLoud 238 = .ok (.aload_n 0, 1) := by decide +kernel
theorem dX9_findLoud_239 : decode cX9_findLoud 239 = .ok (.dup, 1) := by decide +kernel
theorem dX9_findLoud_240 : decode cX9_findLoud 240 = .ok (.getfield 154, 3) := by decide +kernel
theorem dX9_findLoud_243 : decode cX9_findLoud 243 = .ok (.aload_n 0, 1) := by decide +kernel
theorem dX9_findLoud_244 : decode cX9_findLoud 244 = .ok (.getfield 22, 3) := by decide +kernel
theorem dX9_findLoud_247 : decode cX9_findLoud 247 = .ok (.iload 11, 2) := by decide +kernel
theorem dX9_findLoud_249 : decode cX9_findLoud 249 = .ok (.baload, 1) := by decide +kernel
theorem dX9_findLoud_250 : decode cX9_findLoud 250 = .ok (.ifCond .eq 9, 3) := by decide +kernel
theorem dX9_findLoud_253 : decode cX9_findLoud 253 = .ok (.ldc2_w 148, 3) := by decide +kernel
theorem dX9_findLoud_256 : decode cX9_findLoud 256 = .ok (.goto 4, 3) := by decide +kernel
theorem dX9_findLoud_259 : decode cX9_findLoud 259 = .ok (.lconst 1, 1) := by decide +kernel
theorem dX9_findLoud_260 : decode cX9_findLoud 260 = .ok (.lmul, 1) := by decide +kernel
theorem dX9_findLoud_261 : decode cX9_findLoud 261 = .ok (.putfield 154, 3) := by decide +kernel
theorem dX9_findLoud_264 : decode cX9_findLoud 264 = .ok (.iinc 10 1, 3) := by decide +kernel
theorem dX9_findLoud_267 : decode cX9_findLoud 267 = .ok (.goto (-143), 3) := by decide +kernel
theorem dX9_findLoud_270 : decode cX9_findLoud 270 = .ok (.iload 6, 2) := by decide +kernel
theorem dX9_findLoud_272 : decode cX9_findLoud 272 = .ok (.iload 7, 2) := by decide +kernel
theorem dX9_findLoud_274 : decode cX9_findLoud 274 = .ok (.iload_n 3, 1) := by decide +kernel
theorem dX9_findLoud_275 : decode cX9_findLoud 275 = .ok (.bipush 10, 2) := by decide +kernel
theorem dX9_findLoud_277 : decode cX9_findLoud 277 = .ok (.idiv, 1) := by decide +kernel
theorem dX9_findLoud_278 : decode cX9_findLoud 278 = .ok (.invokestatic 164, 3) := by decide +kernel
theorem dX9_findLoud_281 : decode cX9_findLoud 281 = .ok (.istore 10, 2) := by decide +kernel
theorem dX9_findLoud_283 : decode cX9_findLoud 283 = .ok (.iload 10, 2) := by decide +kernel
theorem dX9_findLoud_285 : decode cX9_findLoud 285 = .ok (.ifCond .le 35, 3) := by decide +kernel
theorem dX9_findLoud_288 : decode cX9_findLoud 288 = .ok (.aload_n 0, 1) := by decide +kernel
theorem dX9_findLoud_289 : decode cX9_findLoud 289 = .ok (.dup, 1) := by decide +kernel
theorem dX9_findLoud_290 : decode cX9_findLoud 290 = .ok (.getfield 150, 3) := by decide +kernel
theorem dX9_findLoud_293 : decode cX9_findLoud 293 = .ok (.bipush 10, 2) := by decide +kernel
theorem dX9_findLoud_295 : decode cX9_findLoud 295 = .ok (.iload_n 3, 1) := by decide +kernel
theorem dX9_findLoud_296 : decode cX9_findLoud 296 = .ok (.bipush 10, 2) := by decide +kernel
theorem dX9_findLoud_298 : decode cX9_findLoud 298 = .ok (.irem, 1) := by decide +kernel
theorem dX9_findLoud_299 : decode cX9_findLoud 299 = .ok (.iadd, 1) := by decide +kernel
theorem dX9_findLoud_300 : decode cX9_findLoud 300 = .ok (.i2l, 1) := by decide +kernel
theorem dX9_findLoud_301 : decode cX9_findLoud 301 = .ok (.lmul, 1) := by decide +kernel
theorem dX9_findLoud_302 : decode cX9_findLoud 302 = .ok (.putfield 150, 3) := by decide +kernel
theorem dX9_findLoud_305 : decode cX9_findLoud 305 = .ok (.aload_n 0, 1) := by decide +kernel
theorem dX9_findLoud_306 : decode cX9_findLoud 306 = .ok (.dup, 1) := by decide +kernel
theorem dX9_findLoud_307 : decode cX9_findLoud 307 = .ok (.getfield 154, 3) := by decide +kernel
theorem dX9_findLoud_310 : decode cX9_findLoud 310 = .ok (.ldc2_w 167, 3) := by decide +kernel
theorem dX9_findLoud_313 : decode cX9_findLoud 313 = .ok (.lmul, 1) := by decide +kernel
theorem dX9_findLoud_314 : decode cX9_findLoud 314 = .ok (.putfield 154, 3) := by decide +kernel
theorem dX9_findLoud_317 : decode cX9_findLoud 317 = .ok (.goto 37, 3) := by decide +kernel
theorem dX9_findLoud_320 : decode cX9_findLoud 320 = .ok (.iload 10, 2) := by decide +kernel
theorem dX9_findLoud_322 : decode cX9_findLoud 322 = .ok (.ifCond .ge 32, 3) := by decide +kernel
theorem dX9_findLoud_325 : decode cX9_findLoud 325 = .ok (.aload_n 0, 1) := by decide +kernel
theorem dX9_findLoud_326 : decode cX9_findLoud 326 = .ok (.dup, 1) := by decide +kernel
theorem dX9_findLoud_327 : decode cX9_findLoud 327 = .ok (.getfield 150, 3) := by decide +kernel
theorem dX9_findLoud_330 : decode cX9_findLoud 330 = .ok (.ldc2_w 167, 3) := by decide +kernel
theorem dX9_findLoud_333 : decode cX9_findLoud 333 = .ok (.lmul, 1) := by decide +kernel
theorem dX9_findLoud_334 : decode cX9_findLoud 334 = .ok (.putfield 150, 3) := by decide +kernel
theorem dX9_findLoud_337 : decode cX9_findLoud 337 = .ok (.aload_n 0, 1) := by decide +kernel
theorem dX9_findLoud_338 : decode cX9_findLoud 338 = .ok (.dup, 1) := by decide +kernel
theorem dX9_findLoud_339 : decode cX9_findLoud 339 = .ok (.getfield 154, 3) := by decide +kernel
theorem dX9_findLoud_342 : decode cX9_findLoud 342 = .ok (.bipush 10, 2) := by decide +kernel
theorem dX9_findLoud_344 : decode cX9_findLoud 344 = .ok (.iload_n 3, 1) := by decide +kernel
theorem dX9_findLoud_345 : decode cX9_findLoud 345 = .ok (.bipush 10, 2) := by decide +kernel
theorem dX9_findLoud_347 : decode cX9_findLoud 347 = .ok (.irem, 1) := by decide +kernel
theorem dX9_findLoud_348 : decode cX9_findLoud 348 = .ok (.iadd, 1) := by decide +kernel
theorem dX9_findLoud_349 : decode cX9_findLoud 349 = .ok (.i2l, 1) := by decide +kernel
theorem dX9_findLoud_350 : decode cX9_findLoud 350 = .ok (.lmul, 1) := by decide +kernel
theorem dX9_findLoud_351 : decode cX9_findLoud 351 = .ok (.putfield 154, 3) := by decide +kernel
theorem dX9_findLoud_354 : decode cX9_findLoud 354 = .ok (.return_, 1) := by decide +kernel
theorem dX9_alongWind_0 : decode cX9_alongWind 0 = .ok (.iload_n 2, 1) := by decide +kernel
theorem dX9_alongWind_1 : decode cX9_alongWind 1 = .ok (.tableswitch 34 0 2 #[27, 30, 32], 27) := by decide +kernel
theorem dX9_alongWind_28 : decode cX9_alongWind 28 = .ok (.iload_n 0, 1) := by decide +kernel
theorem dX9_alongWind_29 : decode cX9_alongWind 29 = .ok (.ineg, 1) := by decide +kernel
theorem dX9_alongWind_30 : decode cX9_alongWind 30 = .ok (.ireturn, 1) := by decide +kernel
theorem dX9_alongWind_31 : decode cX9_alongWind 31 = .ok (.iload_n 1, 1) := by decide +kernel
theorem dX9_alongWind_32 : decode cX9_alongWind 32 = .ok (.ireturn, 1) := by decide +kernel
theorem dX9_alongWind_33 : decode cX9_alongWind 33 = .ok (.iload_n 0, 1) := by decide +kernel
theorem dX9_alongWind_34 : decode cX9_alongWind 34 = .ok (.ireturn, 1) := by decide +kernel
theorem dX9_alongWind_35 : decode cX9_alongWind 35 = .ok (.iload_n 1, 1) := by decide +kernel
theorem dX9_alongWind_36 : decode cX9_alongWind 36 = .ok (.ineg, 1) := by decide +kernel
theorem dX9_alongWind_37 : decode cX9_alongWind 37 = .ok (.ireturn, 1) := by decide +kernel
theorem dX9_loud_0 : decode cX9_loud 0 = .ok (.aload_n 0, 1) := by decide +kernel
theorem dX9_loud_1 : decode cX9_loud 1 = .ok (.iload_n 1, 1) := by decide +kernel
theorem dX9_loud_2 : decode cX9_loud 2 = .ok (.invokevirtual 145, 3) := by decide +kernel
theorem dX9_loud_5 : decode cX9_loud 5 = .ok (.ifCond .eq 28, 3) := by decide +kernel
theorem dX9_loud_8 : decode cX9_loud 8 = .ok (.aload_n 0, 1) := by decide +kernel
theorem dX9_loud_9 : decode cX9_loud 9 = .ok (.iload_n 2, 1) := by decide +kernel
theorem dX9_loud_10 : decode cX9_loud 10 = .ok (.invokevirtual 133, 3) := by decide +kernel
theorem dX9_loud_13 : decode cX9_loud 13 = .ok (.ifCond .eq 20, 3) := by decide +kernel
theorem dX9_loud_16 : decode cX9_loud 16 = .ok (.iload_n 3, 1) := by decide +kernel
theorem dX9_loud_17 : decode cX9_loud 17 = .ok (.invokestatic 169, 3) := by decide +kernel
theorem dX9_loud_20 : decode cX9_loud 20 = .ok (.ifCond .eq 13, 3) := by decide +kernel
theorem dX9_loud_23 : decode cX9_loud 23 = .ok (.iload 4, 2) := by decide +kernel
theorem dX9_loud_25 : decode cX9_loud 25 = .ok (.iconst 0, 1) := by decide +kernel
theorem dX9_loud_26 : decode cX9_loud 26 = .ok (.iconst 1, 1) := by decide +kernel
theorem dX9_loud_27 : decode cX9_loud 27 = .ok (.invokestatic 75, 3) := by decide +kernel
theorem dX9_loud_30 : decode cX9_loud 30 = .ok (.ifCond .ne 7, 3) := by decide +kernel
theorem dX9_loud_33 : decode cX9_loud 33 = .ok (.ldc2_w 73, 3) := by decide +kernel
theorem dX9_loud_36 : decode cX9_loud 36 = .ok (.lreturn, 1) := by decide +kernel
theorem dX9_loud_37 : decode cX9_loud 37 = .ok (.aload_n 0, 1) := by decide +kernel
theorem dX9_loud_38 : decode cX9_loud 38 = .ok (.iload_n 1, 1) := by decide +kernel
theorem dX9_loud_39 : decode cX9_loud 39 = .ok (.iload_n 2, 1) := by decide +kernel
theorem dX9_loud_40 : decode cX9_loud 40 = .ok (.iload_n 3, 1) := by decide +kernel
theorem dX9_loud_41 : decode cX9_loud 41 = .ok (.invokevirtual 172, 3) := by decide +kernel
theorem dX9_loud_44 : decode cX9_loud 44 = .ok (.aload_n 0, 1) := by decide +kernel
theorem dX9_loud_45 : decode cX9_loud 45 = .ok (.getfield 150, 3) := by decide +kernel
theorem dX9_loud_48 : decode cX9_loud 48 = .ok (.aload_n 0, 1) := by decide +kernel
theorem dX9_loud_49 : decode cX9_loud 49 = .ok (.getfield 35, 3) := by decide +kernel
theorem dX9_loud_52 : decode cX9_loud 52 = .ok (.iload_n 1, 1) := by decide +kernel
theorem dX9_loud_53 : decode cX9_loud 53 = .ok (.iaload, 1) := by decide +kernel
theorem dX9_loud_54 : decode cX9_loud 54 = .ok (.i2l, 1) := by decide +kernel
theorem dX9_loud_55 : decode cX9_loud 55 = .ok (.lmul, 1) := by decide +kernel
theorem dX9_loud_56 : decode cX9_loud 56 = .ok (.aload_n 0, 1) := by decide +kernel
theorem dX9_loud_57 : decode cX9_loud 57 = .ok (.getfield 154, 3) := by decide +kernel
theorem dX9_loud_60 : decode cX9_loud 60 = .ok (.iload 4, 2) := by decide +kernel
theorem dX9_loud_62 : decode cX9_loud 62 = .ok (.invokestatic 176, 3) := by decide +kernel
theorem dX9_loud_65 : decode cX9_loud 65 = .ok (.lreturn, 1) := by decide +kernel
theorem dX9_layLoud_0 : decode cX9_layLoud 0 = .ok (.iconst 0, 1) := by decide +kernel
theorem dX9_layLoud_1 : decode cX9_layLoud 1 = .ok (.istore_n 2, 1) := by decide +kernel
theorem dX9_layLoud_2 : decode cX9_layLoud 2 = .ok (.iload_n 2, 1) := by decide +kernel
theorem dX9_layLoud_3 : decode cX9_layLoud 3 = .ok (.aload_n 0, 1) := by decide +kernel
theorem dX9_layLoud_4 : decode cX9_layLoud 4 = .ok (.getfield 116, 3) := by decide +kernel
theorem dX9_layLoud_7 : decode cX9_layLoud 7 = .ok (.if_icmp .ge 15, 3) := by decide +kernel
theorem dX9_layLoud_10 : decode cX9_layLoud 10 = .ok (.aload_n 0, 1) := by decide +kernel
theorem dX9_layLoud_11 : decode cX9_layLoud 11 = .ok (.iload_n 2, 1) := by decide +kernel
theorem dX9_layLoud_12 : decode cX9_layLoud 12 = .ok (.iload_n 1, 1) := by decide +kernel
theorem dX9_layLoud_13 : decode cX9_layLoud 13 = .ok (.invokevirtual 180, 3) := by decide +kernel
theorem dX9_layLoud_16 : decode cX9_layLoud 16 = .ok (.iinc 2 1, 3) := by decide +kernel
theorem dX9_layLoud_19 : decode cX9_layLoud 19 = .ok (.goto (-17), 3) := by decide +kernel
theorem dX9_layLoud_22 : decode cX9_layLoud 22 = .ok (.return_, 1) := by decide +kernel
theorem dX9_layOne_0 : decode cX9_layOne 0 = .ok (.iconst 0, 1) := by decide +kernel
theorem dX9_layOne_1 : decode cX9_layOne 1 = .ok (.istore_n 3, 1) := by decide +kernel
theorem dX9_layOne_2 : decode cX9_layOne 2 = .ok (.iload_n 3, 1) := by decide +kernel
theorem dX9_layOne_3 : decode cX9_layOne 3 = .ok (.aload_n 0, 1) := by decide +kernel
theorem dX9_layOne_4 : decode cX9_layOne 4 = .ok (.invokevirtual 85, 3) := by decide +kernel
theorem dX9_layOne_7 : decode cX9_layOne 7 = .ok (.if_icmp .ge 46, 3) := by decide +kernel
theorem dX9_layOne_10 : decode cX9_layOne 10 = .ok (.aload_n 0, 1) := by decide +kernel
theorem dX9_layOne_11 : decode cX9_layOne 11 = .ok (.iload_n 1, 1) := by decide +kernel
theorem dX9_layOne_12 : decode cX9_layOne 12 = .ok (.iload_n 3, 1) := by decide +kernel
theorem dX9_layOne_13 : decode cX9_layOne 13 = .ok (.iload_n 2, 1) := by decide +kernel
theorem dX9_layOne_14 : decode cX9_layOne 14 = .ok (.invokevirtual 172, 3) := by decide +kernel
theorem dX9_layOne_17 : decode cX9_layOne 17 = .ok (.aload_n 0, 1) := by decide +kernel
theorem dX9_layOne_18 : decode cX9_layOne 18 = .ok (.getfield 38, 3) := by decide +kernel
theorem dX9_layOne_21 : decode cX9_layOne 21 = .ok (.bipush 30, 2) := by decide +kernel
theorem dX9_layOne_23 : decode cX9_layOne 23 = .ok (.iload_n 1, 1) := by decide +kernel
theorem dX9_layOne_24 : decode cX9_layOne 24 = .ok (.imul, 1) := by decide +kernel
theorem dX9_layOne_25 : decode cX9_layOne 25 = .ok (.iload_n 3, 1) := by decide +kernel
theorem dX9_layOne_26 : decode cX9_layOne 26 = .ok (.iadd, 1) := by decide +kernel
theorem dX9_layOne_27 : decode cX9_layOne 27 = .ok (.aload_n 0, 1) := by decide +kernel
theorem dX9_layOne_28 : decode cX9_layOne 28 = .ok (.getfield 150, 3) := by decide +kernel
theorem dX9_layOne_31 : decode cX9_layOne 31 = .ok (.lastore, 1) := by decide +kernel
theorem dX9_layOne_32 : decode cX9_layOne 32 = .ok (.aload_n 0, 1) := by decide +kernel
theorem dX9_layOne_33 : decode cX9_layOne 33 = .ok (.getfield 42, 3) := by decide +kernel
theorem dX9_layOne_36 : decode cX9_layOne 36 = .ok (.bipush 30, 2) := by decide +kernel
theorem dX9_layOne_38 : decode cX9_layOne 38 = .ok (.iload_n 1, 1) := by decide +kernel
theorem dX9_layOne_39 : decode cX9_layOne 39 = .ok (.imul, 1) := by decide +kernel
theorem dX9_layOne_40 : decode cX9_layOne 40 = .ok (.iload_n 3, 1) := by decide +kernel
theorem dX9_layOne_41 : decode cX9_layOne 41 = .ok (.iadd, 1) := by decide +kernel
theorem dX9_layOne_42 : decode cX9_layOne 42 = .ok (.aload_n 0, 1) := by decide +kernel
theorem dX9_layOne_43 : decode cX9_layOne 43 = .ok (.getfield 154, 3) := by decide +kernel
theorem dX9_layOne_46 : decode cX9_layOne 46 = .ok (.lastore, 1) := by decide +kernel
theorem dX9_layOne_47 : decode cX9_layOne 47 = .ok (.iinc 3 1, 3) := by decide +kernel
theorem dX9_layOne_50 : decode cX9_layOne 50 = .ok (.goto (-48), 3) := by decide +kernel
theorem dX9_layOne_53 : decode cX9_layOne 53 = .ok (.return_, 1) := by decide +kernel
theorem dX9_isHeard_0 : decode cX9_isHeard 0 = .ok (.ldc2_w 167, 3) := by decide +kernel
theorem dX9_isHeard_3 : decode cX9_isHeard 3 = .ok (.aload_n 0, 1) := by decide +kernel
theorem dX9_isHeard_4 : decode cX9_isHeard 4 = .ok (.getfield 35, 3) := by decide +kernel
theorem dX9_isHeard_7 : decode cX9_isHeard 7 = .ok (.iload_n 1, 1) := by decide +kernel
theorem dX9_isHeard_8 : decode cX9_isHeard 8 = .ok (.iaload, 1) := by decide +kernel
theorem dX9_isHeard_9 : decode cX9_isHeard 9 = .ok (.i2l, 1) := by decide +kernel
theorem dX9_isHeard_10 : decode cX9_isHeard 10 = .ok (.lmul, 1) := by decide +kernel
theorem dX9_isHeard_11 : decode cX9_isHeard 11 = .ok (.aload_n 0, 1) := by decide +kernel
theorem dX9_isHeard_12 : decode cX9_isHeard 12 = .ok (.getfield 38, 3) := by decide +kernel
theorem dX9_isHeard_15 : decode cX9_isHeard 15 = .ok (.bipush 30, 2) := by decide +kernel
theorem dX9_isHeard_17 : decode cX9_isHeard 17 = .ok (.iload_n 1, 1) := by decide +kernel
theorem dX9_isHeard_18 : decode cX9_isHeard 18 = .ok (.imul, 1) := by decide +kernel
theorem dX9_isHeard_19 : decode cX9_isHeard 19 = .ok (.iload_n 2, 1) := by decide +kernel
theorem dX9_isHeard_20 : decode cX9_isHeard 20 = .ok (.iadd, 1) := by decide +kernel
theorem dX9_isHeard_21 : decode cX9_isHeard 21 = .ok (.laload, 1) := by decide +kernel
theorem dX9_isHeard_22 : decode cX9_isHeard 22 = .ok (.lmul, 1) := by decide +kernel
theorem dX9_isHeard_23 : decode cX9_isHeard 23 = .ok (.aload_n 0, 1) := by decide +kernel
theorem dX9_isHeard_24 : decode cX9_isHeard 24 = .ok (.getfield 122, 3) := by decide +kernel
theorem dX9_isHeard_27 : decode cX9_isHeard 27 = .ok (.i2l, 1) := by decide +kernel
theorem dX9_isHeard_28 : decode cX9_isHeard 28 = .ok (.aload_n 0, 1) := by decide +kernel
theorem dX9_isHeard_29 : decode cX9_isHeard 29 = .ok (.getfield 42, 3) := by decide +kernel
theorem dX9_isHeard_32 : decode cX9_isHeard 32 = .ok (.bipush 30, 2) := by decide +kernel
theorem dX9_isHeard_34 : decode cX9_isHeard 34 = .ok (.iload_n 1, 1) := by decide +kernel
theorem dX9_isHeard_35 : decode cX9_isHeard 35 = .ok (.imul, 1) := by decide +kernel
theorem dX9_isHeard_36 : decode cX9_isHeard 36 = .ok (.iload_n 2, 1) := by decide +kernel
theorem dX9_isHeard_37 : decode cX9_isHeard 37 = .ok (.iadd, 1) := by decide +kernel
theorem dX9_isHeard_38 : decode cX9_isHeard 38 = .ok (.laload, 1) := by decide +kernel
theorem dX9_isHeard_39 : decode cX9_isHeard 39 = .ok (.lmul, 1) := by decide +kernel
theorem dX9_isHeard_40 : decode cX9_isHeard 40 = .ok (.lcmp, 1) := by decide +kernel
theorem dX9_isHeard_41 : decode cX9_isHeard 41 = .ok (.ifCond .lt 7, 3) := by decide +kernel
theorem dX9_isHeard_44 : decode cX9_isHeard 44 = .ok (.iconst 1, 1) := by decide +kernel
theorem dX9_isHeard_45 : decode cX9_isHeard 45 = .ok (.goto 4, 3) := by decide +kernel
theorem dX9_isHeard_48 : decode cX9_isHeard 48 = .ok (.iconst 0, 1) := by decide +kernel
theorem dX9_isHeard_49 : decode cX9_isHeard 49 = .ok (.ireturn, 1) := by decide +kernel
theorem dX9_louderBy_0 : decode cX9_louderBy 0 = .ok (.aload_n 0, 1) := by decide +kernel
theorem dX9_louderBy_1 : decode cX9_louderBy 1 = .ok (.getfield 35, 3) := by decide +kernel
theorem dX9_louderBy_4 : decode cX9_louderBy 4 = .ok (.iload_n 1, 1) := by decide +kernel
theorem dX9_louderBy_5 : decode cX9_louderBy 5 = .ok (.iaload, 1) := by decide +kernel
theorem dX9_louderBy_6 : decode cX9_louderBy 6 = .ok (.i2l, 1) := by decide +kernel
theorem dX9_louderBy_7 : decode cX9_louderBy 7 = .ok (.aload_n 0, 1) := by decide +kernel
theorem dX9_louderBy_8 : decode cX9_louderBy 8 = .ok (.getfield 38, 3) := by decide +kernel
theorem dX9_louderBy_11 : decode cX9_louderBy 11 = .ok (.bipush 30, 2) := by decide +kernel
theorem dX9_louderBy_13 : decode cX9_louderBy 13 = .ok (.iload_n 1, 1) := by decide +kernel
theorem dX9_louderBy_14 : decode cX9_louderBy 14 = .ok (.imul, 1) := by decide +kernel
theorem dX9_louderBy_15 : decode cX9_louderBy 15 = .ok (.iload_n 3, 1) := by decide +kernel
theorem dX9_louderBy_16 : decode cX9_louderBy 16 = .ok (.iadd, 1) := by decide +kernel
theorem dX9_louderBy_17 : decode cX9_louderBy 17 = .ok (.laload, 1) := by decide +kernel
theorem dX9_louderBy_18 : decode cX9_louderBy 18 = .ok (.lmul, 1) := by decide +kernel
theorem dX9_louderBy_19 : decode cX9_louderBy 19 = .ok (.aload_n 0, 1) := by decide +kernel
theorem dX9_louderBy_20 : decode cX9_louderBy 20 = .ok (.getfield 42, 3) := by decide +kernel
theorem dX9_louderBy_23 : decode cX9_louderBy 23 = .ok (.bipush 30, 2) := by decide +kernel
theorem dX9_louderBy_25 : decode cX9_louderBy 25 = .ok (.iload_n 2, 1) := by decide +kernel
theorem dX9_louderBy_26 : decode cX9_louderBy 26 = .ok (.imul, 1) := by decide +kernel
theorem dX9_louderBy_27 : decode cX9_louderBy 27 = .ok (.iload_n 3, 1) := by decide +kernel
theorem dX9_louderBy_28 : decode cX9_louderBy 28 = .ok (.iadd, 1) := by decide +kernel
theorem dX9_louderBy_29 : decode cX9_louderBy 29 = .ok (.laload, 1) := by decide +kernel
theorem dX9_louderBy_30 : decode cX9_louderBy 30 = .ok (.lmul, 1) := by decide +kernel
theorem dX9_louderBy_31 : decode cX9_louderBy 31 = .ok (.aload_n 0, 1) := by decide +kernel
theorem dX9_louderBy_32 : decode cX9_louderBy 32 = .ok (.getfield 35, 3) := by decide +kernel
theorem dX9_louderBy_35 : decode cX9_louderBy 35 = .ok (.iload_n 2, 1) := by decide +kernel
theorem dX9_louderBy_36 : decode cX9_louderBy 36 = .ok (.iaload, 1) := by decide +kernel
theorem dX9_louderBy_37 : decode cX9_louderBy 37 = .ok (.i2l, 1) := by decide +kernel
theorem dX9_louderBy_38 : decode cX9_louderBy 38 = .ok (.aload_n 0, 1) := by decide +kernel
theorem dX9_louderBy_39 : decode cX9_louderBy 39 = .ok (.getfield 38, 3) := by decide +kernel
theorem dX9_louderBy_42 : decode cX9_louderBy 42 = .ok (.bipush 30, 2) := by decide +kernel
theorem dX9_louderBy_44 : decode cX9_louderBy 44 = .ok (.iload_n 2, 1) := by decide +kernel
theorem dX9_louderBy_45 : decode cX9_louderBy 45 = .ok (.imul, 1) := by decide +kernel
theorem dX9_louderBy_46 : decode cX9_louderBy 46 = .ok (.iload_n 3, 1) := by decide +kernel
theorem dX9_louderBy_47 : decode cX9_louderBy 47 = .ok (.iadd, 1) := by decide +kernel
theorem dX9_louderBy_48 : decode cX9_louderBy 48 = .ok (.laload, 1) := by decide +kernel
theorem dX9_louderBy_49 : decode cX9_louderBy 49 = .ok (.lmul, 1) := by decide +kernel
theorem dX9_louderBy_50 : decode cX9_louderBy 50 = .ok (.aload_n 0, 1) := by decide +kernel
theorem dX9_louderBy_51 : decode cX9_louderBy 51 = .ok (.getfield 42, 3) := by decide +kernel
theorem dX9_louderBy_54 : decode cX9_louderBy 54 = .ok (.bipush 30, 2) := by decide +kernel
theorem dX9_louderBy_56 : decode cX9_louderBy 56 = .ok (.iload_n 1, 1) := by decide +kernel
theorem dX9_louderBy_57 : decode cX9_louderBy 57 = .ok (.imul, 1) := by decide +kernel
theorem dX9_louderBy_58 : decode cX9_louderBy 58 = .ok (.iload_n 3, 1) := by decide +kernel
theorem dX9_louderBy_59 : decode cX9_louderBy 59 = .ok (.iadd, 1) := by decide +kernel
theorem dX9_louderBy_60 : decode cX9_louderBy 60 = .ok (.laload, 1) := by decide +kernel
theorem dX9_louderBy_61 : decode cX9_louderBy 61 = .ok (.lmul, 1) := by decide +kernel
theorem dX9_louderBy_62 : decode cX9_louderBy 62 = .ok (.lsub, 1) := by decide +kernel
theorem dX9_louderBy_63 : decode cX9_louderBy 63 = .ok (.lreturn, 1) := by decide +kernel
theorem dX9_manyLoudest_0 : decode cX9_manyLoudest 0 = .ok (.aload_n 0, 1) := by decide +kernel
theorem dX9_manyLoudest_1 : decode cX9_manyLoudest 1 = .ok (.bipush (-9), 2) := by decide +kernel
theorem dX9_manyLoudest_3 : decode cX9_manyLoudest 3 = .ok (.putfield 184, 3) := by decide +kernel
theorem dX9_manyLoudest_6 : decode cX9_manyLoudest 6 = .ok (.iconst 0, 1) := by decide +kernel
theorem dX9_manyLoudest_7 : decode cX9_manyLoudest 7 = .ok (.istore_n 2, 1) := by decide +kernel
theorem dX9_manyLoudest_8 : decode cX9_manyLoudest 8 = .ok (.iconst 0, 1) := by decide +kernel
theorem dX9_manyLoudest_9 : decode cX9_manyLoudest 9 = .ok (.istore_n 3, 1) := by decide +kernel
theorem dX9_manyLoudest_10 : decode cX9_manyLoudest 10 = .ok (.iload_n 3, 1) := by decide +kernel
theorem dX9_manyLoudest_11 : decode cX9_manyLoudest 11 = .ok (.aload_n 0, 1) := by decide +kernel
theorem dX9_manyLoudest_12 : decode cX9_manyLoudest 12 = .ok (.getfield 116, 3) := by decide +kernel
theorem dX9_manyLoudest_15 : decode cX9_manyLoudest 15 = .ok (.if_icmp .ge 56, 3) := by decide +kernel
theorem dX9_manyLoudest_18 : decode cX9_manyLoudest 18 = .ok (.iload_n 2, 1) := by decide +kernel
theorem dX9_manyLoudest_19 : decode cX9_manyLoudest 19 = .ok (.ifCond .ne 7, 3) := by decide +kernel
theorem dX9_manyLoudest_22 : decode cX9_manyLoudest 22 = .ok (.lconst 1, 1) := by decide +kernel
theorem dX9_manyLoudest_23 : decode cX9_manyLoudest 23 = .ok (.goto 13, 3) := by decide +kernel
theorem dX9_manyLoudest_26 : decode cX9_manyLoudest 26 = .ok (.aload_n 0, 1) := by decide +kernel
theorem dX9_manyLoudest_27 : decode cX9_manyLoudest 27 = .ok (.iload_n 3, 1) := by decide +kernel
theorem dX9_manyLoudest_28 : decode cX9_manyLoudest 28 = .ok (.aload_n 0, 1) := by decide +kernel
theorem dX9_manyLoudest_29 : decode cX9_manyLoudest 29 = .ok (.getfield 184, 3) := by decide +kernel
theorem dX9_manyLoudest_32 : decode cX9_manyLoudest 32 = .ok (.iload_n 1, 1) := by decide +kernel
theorem dX9_manyLoudest_33 : decode cX9_manyLoudest 33 = .ok (.invokevirtual 187, 3) := by decide +kernel
theorem dX9_manyLoudest_36 : decode cX9_manyLoudest 36 = .ok (.lstore 4, 2) := by decide +kernel
theorem dX9_manyLoudest_38 : decode cX9_manyLoudest 38 = .ok (.lload 4, 2) := by decide +kernel
theorem dX9_manyLoudest_40 : decode cX9_manyLoudest 40 = .ok (.lconst 0, 1) := by decide +kernel
theorem dX9_manyLoudest_41 : decode cX9_manyLoudest 41 = .ok (.lcmp, 1) := by decide +kernel
theorem dX9_manyLoudest_42 : decode cX9_manyLoudest 42 = .ok (.ifCond .le 13, 3) := by decide +kernel
theorem dX9_manyLoudest_45 : decode cX9_manyLoudest 45 = .ok (.aload_n 0, 1) := by decide +kernel
theorem dX9_manyLoudest_46 : decode cX9_manyLoudest 46 = .ok (.iload_n 3, 1) := by decide +kernel
theorem dX9_manyLoudest_47 : decode cX9_manyLoudest 47 = .ok (.putfield 184, 3) := by decide +kernel
theorem dX9_manyLoudest_50 : decode cX9_manyLoudest 50 = .ok (.iconst 1, 1) := by decide +kernel
theorem dX9_manyLoudest_51 : decode cX9_manyLoudest 51 = .ok (.istore_n 2, 1) := by decide +kernel
theorem dX9_manyLoudest_52 : decode cX9_manyLoudest 52 = .ok (.goto 13, 3) := by decide +kernel
theorem dX9_manyLoudest_55 : decode cX9_manyLoudest 55 = .ok (.lload 4, 2) := by decide +kernel
theorem dX9_manyLoudest_57 : decode cX9_manyLoudest 57 = .ok (.lconst 0, 1) := by decide +kernel
theorem dX9_manyLoudest_58 : decode cX9_manyLoudest 58 = .ok (.lcmp, 1) := by decide +kernel
theorem dX9_manyLoudest_59 : decode cX9_manyLoudest 59 = .ok (.ifCond .ne 6, 3) := by decide +kernel
theorem dX9_manyLoudest_62 : decode cX9_manyLoudest 62 = .ok (.iinc 2 1, 3) := by decide +kernel
theorem dX9_manyLoudest_65 : decode cX9_manyLoudest 65 = .ok (.iinc 3 1, 3) := by decide +kernel
theorem dX9_manyLoudest_68 : decode cX9_manyLoudest 68 = .ok (.goto (-58), 3) := by decide +kernel
theorem dX9_manyLoudest_71 : decode cX9_manyLoudest 71 = .ok (.iload_n 2, 1) := by decide +kernel
theorem dX9_manyLoudest_72 : decode cX9_manyLoudest 72 = .ok (.ireturn, 1) := by decide +kernel
theorem dX9_whoseBy_0 : decode cX9_whoseBy 0 = .ok (.aload_n 0, 1) := by decide +kernel
theorem dX9_whoseBy_1 : decode cX9_whoseBy 1 = .ok (.iload_n 1, 1) := by decide +kernel
theorem dX9_whoseBy_2 : decode cX9_whoseBy 2 = .ok (.invokevirtual 191, 3) := by decide +kernel
theorem dX9_whoseBy_5 : decode cX9_whoseBy 5 = .ok (.istore_n 2, 1) := by decide +kernel
theorem dX9_whoseBy_6 : decode cX9_whoseBy 6 = .ok (.iload_n 2, 1) := by decide +kernel
theorem dX9_whoseBy_7 : decode cX9_whoseBy 7 = .ok (.ifCond .eq 15, 3) := by decide +kernel
theorem dX9_whoseBy_10 : decode cX9_whoseBy 10 = .ok (.aload_n 0, 1) := by decide +kernel
theorem dX9_whoseBy_11 : decode cX9_whoseBy 11 = .ok (.aload_n 0, 1) := by decide +kernel
theorem dX9_whoseBy_12 : decode cX9_whoseBy 12 = .ok (.getfield 184, 3) := by decide +kernel
theorem dX9_whoseBy_15 : decode cX9_whoseBy 15 = .ok (.iload_n 1, 1) := by decide +kernel
theorem dX9_whoseBy_16 : decode cX9_whoseBy 16 = .ok (.invokevirtual 194, 3) := by decide +kernel
theorem dX9_whoseBy_19 : decode cX9_whoseBy 19 = .ok (.ifCond .ne 6, 3) := by decide +kernel
theorem dX9_whoseBy_22 : decode cX9_whoseBy 22 = .ok (.bipush (-6), 2) := by decide +kernel
theorem dX9_whoseBy_24 : decode cX9_whoseBy 24 = .ok (.ireturn, 1) := by decide +kernel
theorem dX9_whoseBy_25 : decode cX9_whoseBy 25 = .ok (.iload_n 2, 1) := by decide +kernel
theorem dX9_whoseBy_26 : decode cX9_whoseBy 26 = .ok (.iconst 1, 1) := by decide +kernel
theorem dX9_whoseBy_27 : decode cX9_whoseBy 27 = .ok (.if_icmp .le 8, 3) := by decide +kernel
theorem dX9_whoseBy_30 : decode cX9_whoseBy 30 = .ok (.bipush (-5), 2) := by decide +kernel
theorem dX9_whoseBy_32 : decode cX9_whoseBy 32 = .ok (.goto 7, 3) := by decide +kernel
theorem dX9_whoseBy_35 : decode cX9_whoseBy 35 = .ok (.aload_n 0, 1) := by decide +kernel
theorem dX9_whoseBy_36 : decode cX9_whoseBy 36 = .ok (.getfield 184, 3) := by decide +kernel
theorem dX9_whoseBy_39 : decode cX9_whoseBy 39 = .ok (.ireturn, 1) := by decide +kernel
theorem dX9_whose_0 : decode cX9_whose 0 = .ok (.aload_n 0, 1) := by decide +kernel
theorem dX9_whose_1 : decode cX9_whose 1 = .ok (.iload_n 1, 1) := by decide +kernel
theorem dX9_whose_2 : decode cX9_whose 2 = .ok (.invokevirtual 133, 3) := by decide +kernel
theorem dX9_whose_5 : decode cX9_whose 5 = .ok (.ifCond .ne 5, 3) := by decide +kernel
theorem dX9_whose_8 : decode cX9_whose 8 = .ok (.iconst (-1), 1) := by decide +kernel
theorem dX9_whose_9 : decode cX9_whose 9 = .ok (.ireturn, 1) := by decide +kernel
theorem dX9_whose_10 : decode cX9_whose 10 = .ok (.iload_n 2, 1) := by decide +kernel
theorem dX9_whose_11 : decode cX9_whose 11 = .ok (.invokestatic 169, 3) := by decide +kernel
theorem dX9_whose_14 : decode cX9_whose 14 = .ok (.ifCond .ne 6, 3) := by decide +kernel
theorem dX9_whose_17 : decode cX9_whose 17 = .ok (.bipush (-2), 2) := by decide +kernel
theorem dX9_whose_19 : decode cX9_whose 19 = .ok (.ireturn, 1) := by decide +kernel
theorem dX9_whose_20 : decode cX9_whose 20 = .ok (.aload_n 0, 1) := by decide +kernel
theorem dX9_whose_21 : decode cX9_whose 21 = .ok (.iload_n 2, 1) := by decide +kernel
theorem dX9_whose_22 : decode cX9_whose 22 = .ok (.invokevirtual 197, 3) := by decide +kernel
theorem dX9_whose_25 : decode cX9_whose 25 = .ok (.aload_n 0, 1) := by decide +kernel
theorem dX9_whose_26 : decode cX9_whose 26 = .ok (.iload_n 1, 1) := by decide +kernel
theorem dX9_whose_27 : decode cX9_whose 27 = .ok (.invokevirtual 201, 3) := by decide +kernel
theorem dX9_whose_30 : decode cX9_whose 30 = .ok (.ireturn, 1) := by decide +kernel
theorem dX9_reaches_0 : decode cX9_reaches 0 = .ok (.aload_n 0, 1) := by decide +kernel
theorem dX9_reaches_1 : decode cX9_reaches 1 = .ok (.iload_n 2, 1) := by decide +kernel
theorem dX9_reaches_2 : decode cX9_reaches 2 = .ok (.invokevirtual 191, 3) := by decide +kernel
theorem dX9_reaches_5 : decode cX9_reaches 5 = .ok (.istore_n 3, 1) := by decide +kernel
theorem dX9_reaches_6 : decode cX9_reaches 6 = .ok (.iload_n 3, 1) := by decide +kernel
theorem dX9_reaches_7 : decode cX9_reaches 7 = .ok (.ifCond .le 34, 3) := by decide +kernel
theorem dX9_reaches_10 : decode cX9_reaches 10 = .ok (.aload_n 0, 1) := by decide +kernel
theorem dX9_reaches_11 : decode cX9_reaches 11 = .ok (.aload_n 0, 1) := by decide +kernel
theorem dX9_reaches_12 : decode cX9_reaches 12 = .ok (.getfield 184, 3) := by decide +kernel
theorem dX9_reaches_15 : decode cX9_reaches 15 = .ok (.iload_n 2, 1) := by decide +kernel
theorem dX9_reaches_16 : decode cX9_reaches 16 = .ok (.invokevirtual 194, 3) := by decide +kernel
theorem dX9_reaches_19 : decode cX9_reaches 19 = .ok (.ifCond .eq 22, 3) := by decide +kernel
theorem dX9_reaches_22 : decode cX9_reaches 22 = .ok (.aload_n 0, 1) := by decide +kernel
theorem dX9_reaches_23 : decode cX9_reaches 23 = .ok (.iload_n 1, 1) := by decide +kernel
theorem dX9_reaches_24 : decode cX9_reaches 24 = .ok (.aload_n 0, 1) := by decide +kernel
theorem dX9_reaches_25 : decode cX9_reaches 25 = .ok (.getfield 184, 3) := by decide +kernel
theorem dX9_reaches_28 : decode cX9_reaches 28 = .ok (.iload_n 2, 1) := by decide +kernel
theorem dX9_reaches_29 : decode cX9_reaches 29 = .ok (.invokevirtual 187, 3) := by decide +kernel
theorem dX9_reaches_32 : decode cX9_reaches 32 = .ok (.lconst 0, 1) := by decide +kernel
theorem dX9_reaches_33 : decode cX9_reaches 33 = .ok (.lcmp, 1) := by decide +kernel
theorem dX9_reaches_34 : decode cX9_reaches 34 = .ok (.ifCond .ne 7, 3) := by decide +kernel
theorem dX9_reaches_37 : decode cX9_reaches 37 = .ok (.iconst 1, 1) := by decide +kernel
theorem dX9_reaches_38 : decode cX9_reaches 38 = .ok (.goto 4, 3) := by decide +kernel
theorem dX9_reaches_41 : decode cX9_reaches 41 = .ok (.iconst 0, 1) := by decide +kernel
theorem dX9_reaches_42 : decode cX9_reaches 42 = .ok (.ireturn, 1) := by decide +kernel
theorem dX9_reach_0 : decode cX9_reach 0 = .ok (.aload_n 0, 1) := by decide +kernel
theorem dX9_reach_1 : decode cX9_reach 1 = .ok (.iload_n 1, 1) := by decide +kernel
theorem dX9_reach_2 : decode cX9_reach 2 = .ok (.invokevirtual 145, 3) := by decide +kernel
theorem dX9_reach_5 : decode cX9_reach 5 = .ok (.ifCond .ne 5, 3) := by decide +kernel
theorem dX9_reach_8 : decode cX9_reach 8 = .ok (.iconst (-1), 1) := by decide +kernel
theorem dX9_reach_9 : decode cX9_reach 9 = .ok (.ireturn, 1) := by decide +kernel
theorem dX9_reach_10 : decode cX9_reach 10 = .ok (.iload_n 2, 1) := by decide +kernel
theorem dX9_reach_11 : decode cX9_reach 11 = .ok (.invokestatic 169, 3) := by decide +kernel
theorem dX9_reach_14 : decode cX9_reach 14 = .ok (.ifCond .ne 6, 3) := by decide +kernel
theorem dX9_reach_17 : decode cX9_reach 17 = .ok (.bipush (-2), 2) := by decide +kernel
theorem dX9_reach_19 : decode cX9_reach 19 = .ok (.ireturn, 1) := by decide +kernel
theorem dX9_reach_20 : decode cX9_reach 20 = .ok (.aload_n 0, 1) := by decide +kernel
theorem dX9_reach_21 : decode cX9_reach 21 = .ok (.iload_n 2, 1) := by decide +kernel
theorem dX9_reach_22 : decode cX9_reach 22 = .ok (.invokevirtual 197, 3) := by decide +kernel
theorem dX9_reach_25 : decode cX9_reach 25 = .ok (.iconst 0, 1) := by decide +kernel
theorem dX9_reach_26 : decode cX9_reach 26 = .ok (.istore_n 3, 1) := by decide +kernel
theorem dX9_reach_27 : decode cX9_reach 27 = .ok (.iconst 0, 1) := by decide +kernel
theorem dX9_reach_28 : decode cX9_reach 28 = .ok (.istore 4, 2) := by decide +kernel
theorem dX9_reach_30 : decode cX9_reach 30 = .ok (.iload 4, 2) := by decide +kernel
theorem dX9_reach_32 : decode cX9_reach 32 = .ok (.aload_n 0, 1) := by decide +kernel
theorem dX9_reach_33 : decode cX9_reach 33 = .ok (.invokevirtual 85, 3) := by decide +kernel
theorem dX9_reach_36 : decode cX9_reach 36 = .ok (.if_icmp .ge 30, 3) := by decide +kernel
theorem dX9_reach_39 : decode cX9_reach 39 = .ok (.iload_n 3, 1) := by decide +kernel
theorem dX9_reach_40 : decode cX9_reach 40 = .ok (.aload_n 0, 1) := by decide +kernel
theorem dX9_reach_41 : decode cX9_reach 41 = .ok (.iload_n 1, 1) := by decide +kernel
theorem dX9_reach_42 : decode cX9_reach 42 = .ok (.iload 4, 2) := by decide +kernel
theorem dX9_reach_44 : decode cX9_reach 44 = .ok (.invokevirtual 204, 3) := by decide +kernel
theorem dX9_reach_47 : decode cX9_reach 47 = .ok (.ifCond .eq 10, 3) := by decide +kernel
theorem dX9_reach_50 : decode cX9_reach 50 = .ok (.iconst 1, 1) := by decide +kernel
theorem dX9_reach_51 : decode cX9_reach 51 = .ok (.iload 4, 2) := by decide +kernel
theorem dX9_reach_53 : decode cX9_reach 53 = .ok (.ishl, 1) := by decide +kernel
theorem dX9_reach_54 : decode cX9_reach 54 = .ok (.goto 4, 3) := by decide +kernel
theorem dX9_reach_57 : decode cX9_reach 57 = .ok (.iconst 0, 1) := by decide +kernel
theorem dX9_reach_58 : decode cX9_reach 58 = .ok (.ior, 1) := by decide +kernel
theorem dX9_reach_59 : decode cX9_reach 59 = .ok (.istore_n 3, 1) := by decide +kernel
theorem dX9_reach_60 : decode cX9_reach 60 = .ok (.iinc 4 1, 3) := by decide +kernel
theorem dX9_reach_63 : decode cX9_reach 63 = .ok (.goto (-33), 3) := by decide +kernel
theorem dX9_reach_66 : decode cX9_reach 66 = .ok (.iload_n 3, 1) := by decide +kernel
theorem dX9_reach_67 : decode cX9_reach 67 = .ok (.ireturn, 1) := by decide +kernel
theorem dX9_tithesOf_0 : decode cX9_tithesOf 0 = .ok (.lconst 0, 1) := by decide +kernel
theorem dX9_tithesOf_1 : decode cX9_tithesOf 1 = .ok (.lstore_n 2, 1) := by decide +kernel
theorem dX9_tithesOf_2 : decode cX9_tithesOf 2 = .ok (.iconst 0, 1) := by decide +kernel
theorem dX9_tithesOf_3 : decode cX9_tithesOf 3 = .ok (.istore 4, 2) := by decide +kernel
theorem dX9_tithesOf_5 : decode cX9_tithesOf 5 = .ok (.iload 4, 2) := by decide +kernel
theorem dX9_tithesOf_7 : decode cX9_tithesOf 7 = .ok (.aload_n 0, 1) := by decide +kernel
theorem dX9_tithesOf_8 : decode cX9_tithesOf 8 = .ok (.invokevirtual 85, 3) := by decide +kernel
theorem dX9_tithesOf_11 : decode cX9_tithesOf 11 = .ok (.if_icmp .ge 39, 3) := by decide +kernel
theorem dX9_tithesOf_14 : decode cX9_tithesOf 14 = .ok (.aload_n 0, 1) := by decide +kernel
theorem dX9_tithesOf_15 : decode cX9_tithesOf 15 = .ok (.iload_n 1, 1) := by decide +kernel
theorem dX9_tithesOf_16 : decode cX9_tithesOf 16 = .ok (.iload 4, 2) := by decide +kernel
theorem dX9_tithesOf_18 : decode cX9_tithesOf 18 = .ok (.invokevirtual 204, 3) := by decide +kernel
theorem dX9_tithesOf_21 : decode cX9_tithesOf 21 = .ok (.ifCond .eq 23, 3) := by decide +kernel
theorem dX9_tithesOf_24 : decode cX9_tithesOf 24 = .ok (.lload_n 2, 1) := by decide +kernel
theorem dX9_tithesOf_25 : decode cX9_tithesOf 25 = .ok (.bipush 60, 2) := by decide +kernel
theorem dX9_tithesOf_27 : decode cX9_tithesOf 27 = .ok (.aload_n 0, 1) := by decide +kernel
theorem dX9_tithesOf_28 : decode cX9_tithesOf 28 = .ok (.iload 4, 2) := by decide +kernel
theorem dX9_tithesOf_30 : decode cX9_tithesOf 30 = .ok (.invokevirtual 136, 3) := by decide +kernel
theorem dX9_tithesOf_33 : decode cX9_tithesOf 33 = .ok (.imul, 1) := by decide +kernel
theorem dX9_tithesOf_34 : decode cX9_tithesOf 34 = .ok (.aload_n 0, 1) := by decide +kernel
theorem dX9_tithesOf_35 : decode cX9_tithesOf 35 = .ok (.iload 4, 2) := by decide +kernel
theorem dX9_tithesOf_37 : decode cX9_tithesOf 37 = .ok (.invokevirtual 191, 3) := by decide +kernel
theorem dX9_tithesOf_40 : decode cX9_tithesOf 40 = .ok (.idiv, 1) := by decide +kernel
theorem dX9_tithesOf_41 : decode cX9_tithesOf 41 = .ok (.i2l, 1) := by decide +kernel
theorem dX9_tithesOf_42 : decode cX9_tithesOf 42 = .ok (.ladd, 1) := by decide +kernel
theorem dX9_tithesOf_43 : decode cX9_tithesOf 43 = .ok (.lstore_n 2, 1) := by decide +kernel
theorem dX9_tithesOf_44 : decode cX9_tithesOf 44 = .ok (.iinc 4 1, 3) := by decide +kernel
theorem dX9_tithesOf_47 : decode cX9_tithesOf 47 = .ok (.goto (-42), 3) := by decide +kernel
theorem dX9_tithesOf_50 : decode cX9_tithesOf 50 = .ok (.lload_n 2, 1) := by decide +kernel
theorem dX9_tithesOf_51 : decode cX9_tithesOf 51 = .ok (.lreturn, 1) := by decide +kernel
theorem dX9_tithes_0 : decode cX9_tithes 0 = .ok (.aload_n 0, 1) := by decide +kernel
theorem dX9_tithes_1 : decode cX9_tithes 1 = .ok (.iconst 0, 1) := by decide +kernel
theorem dX9_tithes_2 : decode cX9_tithes 2 = .ok (.putfield 69, 3) := by decide +kernel
theorem dX9_tithes_5 : decode cX9_tithes 5 = .ok (.aload_n 0, 1) := by decide +kernel
theorem dX9_tithes_6 : decode cX9_tithes 6 = .ok (.iload_n 1, 1) := by decide +kernel
theorem dX9_tithes_7 : decode cX9_tithes 7 = .ok (.invokevirtual 145, 3) := by decide +kernel
theorem dX9_tithes_10 : decode cX9_tithes 10 = .ok (.ifCond .eq 17, 3) := by decide +kernel
theorem dX9_tithes_13 : decode cX9_tithes 13 = .ok (.iload_n 2, 1) := by decide +kernel
theorem dX9_tithes_14 : decode cX9_tithes 14 = .ok (.invokestatic 92, 3) := by decide +kernel
theorem dX9_tithes_17 : decode cX9_tithes 17 = .ok (.ifCond .eq 10, 3) := by decide +kernel
theorem dX9_tithes_20 : decode cX9_tithes 20 = .ok (.iload_n 3, 1) := by decide +kernel
theorem dX9_tithes_21 : decode cX9_tithes 21 = .ok (.invokestatic 96, 3) := by decide +kernel
theorem dX9_tithes_24 : decode cX9_tithes 24 = .ok (.ifCond .ne 7, 3) := by decide +kernel
theorem dX9_tithes_27 : decode cX9_tithes 27 = .ok (.ldc2_w 73, 3) := by decide +kernel
theorem dX9_tithes_30 : decode cX9_tithes 30 = .ok (.lreturn, 1) := by decide +kernel
theorem dX9_tithes_31 : decode cX9_tithes 31 = .ok (.aload_n 0, 1) := by decide +kernel
theorem dX9_tithes_32 : decode cX9_tithes 32 = .ok (.iload_n 2, 1) := by decide +kernel
theorem dX9_tithes_33 : decode cX9_tithes 33 = .ok (.iload_n 3, 1) := by decide +kernel
theorem dX9_tithes_34 : decode cX9_tithes 34 = .ok (.iload 4, 2) := by decide +kernel
theorem dX9_tithes_36 : decode cX9_tithes 36 = .ok (.iload 5, 2) := by decide +kernel
theorem dX9_tithes_38 : decode cX9_tithes 38 = .ok (.invokevirtual 99, 3) := by decide +kernel
theorem dX9_tithes_41 : decode cX9_tithes 41 = .ok (.istore 7, 2) := by decide +kernel
theorem dX9_tithes_43 : decode cX9_tithes 43 = .ok (.iload 7, 2) := by decide +kernel
theorem dX9_tithes_45 : decode cX9_tithes 45 = .ok (.ifCond .eq 10, 3) := by decide +kernel
theorem dX9_tithes_48 : decode cX9_tithes 48 = .ok (.aload_n 0, 1) := by decide +kernel
theorem dX9_tithes_49 : decode cX9_tithes 49 = .ok (.iload 7, 2) := by decide +kernel
theorem dX9_tithes_51 : decode cX9_tithes 51 = .ok (.invokevirtual 207, 3) := by decide +kernel
theorem dX9_tithes_54 : decode cX9_tithes 54 = .ok (.lreturn, 1) := by decide +kernel
theorem dX9_tithes_55 : decode cX9_tithes 55 = .ok (.bipush 60, 2) := by decide +kernel
theorem dX9_tithes_57 : decode cX9_tithes 57 = .ok (.iload_n 2, 1) := by decide +kernel
theorem dX9_tithes_58 : decode cX9_tithes 58 = .ok (.imul, 1) := by decide +kernel
theorem dX9_tithes_59 : decode cX9_tithes 59 = .ok (.iload 4, 2) := by decide +kernel
theorem dX9_tithes_61 : decode cX9_tithes 61 = .ok (.iadd, 1) := by decide +kernel
theorem dX9_tithes_62 : decode cX9_tithes 62 = .ok (.istore 8, 2) := by decide +kernel
theorem dX9_tithes_64 : decode cX9_tithes 64 = .ok (.iconst 0, 1) := by decide +kernel
theorem dX9_tithes_65 : decode cX9_tithes 65 = .ok (.istore 9, 2) := by decide +kernel
theorem dX9_tithes_67 : decode cX9_tithes 67 = .ok (.iload 9, 2) := by decide +kernel
theorem dX9_tithes_69 : decode cX9_tithes 69 = .ok (.iload 5, 2) := by decide +kernel
theorem dX9_tithes_71 : decode cX9_tithes 71 = .ok (.if_icmp .ge 29, 3) := by decide +kernel
theorem dX9_tithes_74 : decode cX9_tithes 74 = .ok (.aload_n 0, 1) := by decide +kernel
theorem dX9_tithes_75 : decode cX9_tithes 75 = .ok (.getfield 16, 3) := by decide +kernel
theorem dX9_tithes_78 : decode cX9_tithes 78 = .ok (.iload 8, 2) := by decide +kernel
theorem dX9_tithes_80 : decode cX9_tithes 80 = .ok (.iload 9, 2) := by decide +kernel
theorem dX9_tithes_82 : decode cX9_tithes 82 = .ok (.iadd, 1) := by decide +kernel
theorem dX9_tithes_83 : decode cX9_tithes 83 = .ok (.iaload, 1) := by decide +kernel
theorem dX9_tithes_84 : decode cX9_tithes 84 = .ok (.invokestatic 169, 3) := by decide +kernel
theorem dX9_tithes_87 : decode cX9_tithes 87 = .ok (.ifCond .ne 7, 3) := by decide +kernel
theorem dX9_tithes_90 : decode cX9_tithes 90 = .ok (.ldc2_w 73, 3) := by decide +kernel
theorem dX9_tithes_93 : decode cX9_tithes 93 = .ok (.lreturn, 1) := by decide +kernel
theorem dX9_tithes_94 : decode cX9_tithes 94 = .ok (.iinc 9 1, 3) := by decide +kernel
theorem dX9_tithes_97 : decode cX9_tithes 97 = .ok (.goto (-30), 3) := by decide +kernel
theorem dX9_tithes_100 : decode cX9_tithes 100 = .ok (.iload 6, 2) := by decide +kernel
theorem dX9_tithes_102 : decode cX9_tithes 102 = .ok (.iconst 0, 1) := by decide +kernel
theorem dX9_tithes_103 : decode cX9_tithes 103 = .ok (.iconst 1, 1) := by decide +kernel
theorem dX9_tithes_104 : decode cX9_tithes 104 = .ok (.invokestatic 75, 3) := by decide +kernel
theorem dX9_tithes_107 : decode cX9_tithes 107 = .ok (.ifCond .ne 7, 3) := by decide +kernel
theorem dX9_tithes_110 : decode cX9_tithes 110 = .ok (.ldc2_w 73, 3) := by decide +kernel
theorem dX9_tithes_113 : decode cX9_tithes 113 = .ok (.lreturn, 1) := by decide +kernel
theorem dX9_tithes_114 : decode cX9_tithes 114 = .ok (.lconst 0, 1) := by decide +kernel
theorem dX9_tithes_115 : decode cX9_tithes 115 = .ok (.lstore 9, 2) := by decide +kernel
theorem dX9_tithes_117 : decode cX9_tithes 117 = .ok (.iconst 0, 1) := by decide +kernel
theorem dX9_tithes_118 : decode cX9_tithes 118 = .ok (.istore 11, 2) := by decide +kernel
theorem dX9_tithes_120 : decode cX9_tithes 120 = .ok (.iload 11, 2) := by decide +kernel
theorem dX9_tithes_122 : decode cX9_tithes 122 = .ok (.iload 5, 2) := by decide +kernel
theorem dX9_tithes_124 : decode cX9_tithes 124 = .ok (.if_icmp .ge 33, 3) := by decide +kernel
theorem dX9_tithes_127 : decode cX9_tithes 127 = .ok (.aload_n 0, 1) := by decide +kernel
theorem dX9_tithes_128 : decode cX9_tithes 128 = .ok (.aload_n 0, 1) := by decide +kernel
theorem dX9_tithes_129 : decode cX9_tithes 129 = .ok (.getfield 16, 3) := by decide +kernel
theorem dX9_tithes_132 : decode cX9_tithes 132 = .ok (.iload 8, 2) := by decide +kernel
theorem dX9_tithes_134 : decode cX9_tithes 134 = .ok (.iload 11, 2) := by decide +kernel
theorem dX9_tithes_136 : decode cX9_tithes 136 = .ok (.iadd, 1) := by decide +kernel
theorem dX9_tithes_137 : decode cX9_tithes 137 = .ok (.iaload, 1) := by decide +kernel
theorem dX9_tithes_138 : decode cX9_tithes 138 = .ok (.invokevirtual 197, 3) := by decide +kernel
theorem dX9_tithes_141 : decode cX9_tithes 141 = .ok (.lload 9, 2) := by decide +kernel
theorem dX9_tithes_143 : decode cX9_tithes 143 = .ok (.aload_n 0, 1) := by decide +kernel
theorem dX9_tithes_144 : decode cX9_tithes 144 = .ok (.iload_n 1, 1) := by decide +kernel
theorem dX9_tithes_145 : decode cX9_tithes 145 = .ok (.invokevirtual 211, 3) := by decide +kernel
theorem dX9_tithes_148 : decode cX9_tithes 148 = .ok (.ladd, 1) := by decide +kernel
theorem dX9_tithes_149 : decode cX9_tithes 149 = .ok (.lstore 9, 2) := by decide +kernel
theorem dX9_tithes_151 : decode cX9_tithes 151 = .ok (.iinc 11 1, 3) := by decide +kernel
theorem dX9_tithes_154 : decode cX9_tithes 154 = .ok (.goto (-34), 3) := by decide +kernel
theorem dX9_tithes_157 : decode cX9_tithes 157 = .ok (.lload 9, 2) := by decide +kernel
theorem dX9_tithes_159 : decode cX9_tithes 159 = .ok (.ldc2_w 214, 3) := by decide +kernel
theorem dX9_tithes_162 : decode cX9_tithes 162 = .ok (.iload 6, 2) := by decide +kernel
theorem dX9_tithes_164 : decode cX9_tithes 164 = .ok (.invokestatic 176, 3) := by decide +kernel
theorem dX9_tithes_167 : decode cX9_tithes 167 = .ok (.lreturn, 1) := by decide +kernel
theorem dX9_winsBy_0 : decode cX9_winsBy 0 = .ok (.aload_n 0, 1) := by decide +kernel
theorem dX9_winsBy_1 : decode cX9_winsBy 1 = .ok (.getfield 35, 3) := by decide +kernel
theorem dX9_winsBy_4 : decode cX9_winsBy 4 = .ok (.iload_n 1, 1) := by decide +kernel
theorem dX9_winsBy_5 : decode cX9_winsBy 5 = .ok (.iaload, 1) := by decide +kernel
theorem dX9_winsBy_6 : decode cX9_winsBy 6 = .ok (.istore_n 3, 1) := by decide +kernel
theorem dX9_winsBy_7 : decode cX9_winsBy 7 = .ok (.bipush (-9), 2) := by decide +kernel
theorem dX9_winsBy_9 : decode cX9_winsBy 9 = .ok (.istore 4, 2) := by decide +kernel
theorem dX9_winsBy_11 : decode cX9_winsBy 11 = .ok (.iconst 1, 1) := by decide +kernel
theorem dX9_winsBy_12 : decode cX9_winsBy 12 = .ok (.istore 5, 2) := by decide +kernel
theorem dX9_winsBy_14 : decode cX9_winsBy 14 = .ok (.iload 5, 2) := by decide +kernel
theorem dX9_winsBy_16 : decode cX9_winsBy 16 = .ok (.bipush 99, 2) := by decide +kernel
theorem dX9_winsBy_18 : decode cX9_winsBy 18 = .ok (.if_icmp .gt 42, 3) := by decide +kernel
theorem dX9_winsBy_21 : decode cX9_winsBy 21 = .ok (.iload 4, 2) := by decide +kernel
theorem dX9_winsBy_23 : decode cX9_winsBy 23 = .ok (.bipush (-9), 2) := by decide +kernel
theorem dX9_winsBy_25 : decode cX9_winsBy 25 = .ok (.if_icmp .ne 35, 3) := by decide +kernel
theorem dX9_winsBy_28 : decode cX9_winsBy 28 = .ok (.aload_n 0, 1) := by decide +kernel
theorem dX9_winsBy_29 : decode cX9_winsBy 29 = .ok (.getfield 35, 3) := by decide +kernel
theorem dX9_winsBy_32 : decode cX9_winsBy 32 = .ok (.iload_n 1, 1) := by decide +kernel
theorem dX9_winsBy_33 : decode cX9_winsBy 33 = .ok (.iload 5, 2) := by decide +kernel
theorem dX9_winsBy_35 : decode cX9_winsBy 35 = .ok (.iastore, 1) := by decide +kernel
theorem dX9_winsBy_36 : decode cX9_winsBy 36 = .ok (.aload_n 0, 1) := by decide +kernel
theorem dX9_winsBy_37 : decode cX9_winsBy 37 = .ok (.iload_n 2, 1) := by decide +kernel
theorem dX9_winsBy_38 : decode cX9_winsBy 38 = .ok (.invokevirtual 201, 3) := by decide +kernel
theorem dX9_winsBy_41 : decode cX9_winsBy 41 = .ok (.iload_n 1, 1) := by decide +kernel
theorem dX9_winsBy_42 : decode cX9_winsBy 42 = .ok (.if_icmp .ne 8, 3) := by decide +kernel
theorem dX9_winsBy_45 : decode cX9_winsBy 45 = .ok (.iload 5, 2) := by decide +kernel
theorem dX9_winsBy_47 : decode cX9_winsBy 47 = .ok (.goto 5, 3) := by decide +kernel
theorem dX9_winsBy_50 : decode cX9_winsBy 50 = .ok (.bipush (-9), 2) := by decide +kernel
theorem dX9_winsBy_52 : decode cX9_winsBy 52 = .ok (.istore 4, 2) := by decide +kernel
theorem dX9_winsBy_54 : decode cX9_winsBy 54 = .ok (.iinc 5 1, 3) := by decide +kernel
theorem dX9_winsBy_57 : decode cX9_winsBy 57 = .ok (.goto (-43), 3) := by decide +kernel
theorem dX9_winsBy_60 : decode cX9_winsBy 60 = .ok (.aload_n 0, 1) := by decide +kernel
theorem dX9_winsBy_61 : decode cX9_winsBy 61 = .ok (.getfield 35, 3) := by decide +kernel
theorem dX9_winsBy_64 : decode cX9_winsBy 64 = .ok (.iload_n 1, 1) := by decide +kernel
theorem dX9_winsBy_65 : decode cX9_winsBy 65 = .ok (.iload_n 3, 1) := by decide +kernel
theorem dX9_winsBy_66 : decode cX9_winsBy 66 = .ok (.iastore, 1) := by decide +kernel
theorem dX9_winsBy_67 : decode cX9_winsBy 67 = .ok (.iload 4, 2) := by decide +kernel
theorem dX9_winsBy_69 : decode cX9_winsBy 69 = .ok (.ireturn, 1) := by decide +kernel
theorem dX9_wins_0 : decode cX9_wins 0 = .ok (.aload_n 0, 1) := by decide +kernel
theorem dX9_wins_1 : decode cX9_wins 1 = .ok (.iload_n 1, 1) := by decide +kernel
theorem dX9_wins_2 : decode cX9_wins 2 = .ok (.invokevirtual 145, 3) := by decide +kernel
theorem dX9_wins_5 : decode cX9_wins 5 = .ok (.ifCond .eq 11, 3) := by decide +kernel
theorem dX9_wins_8 : decode cX9_wins 8 = .ok (.aload_n 0, 1) := by decide +kernel
theorem dX9_wins_9 : decode cX9_wins 9 = .ok (.iload_n 2, 1) := by decide +kernel
theorem dX9_wins_10 : decode cX9_wins 10 = .ok (.invokevirtual 133, 3) := by decide +kernel
theorem dX9_wins_13 : decode cX9_wins 13 = .ok (.ifCond .ne 5, 3) := by decide +kernel
theorem dX9_wins_16 : decode cX9_wins 16 = .ok (.iconst (-1), 1) := by decide +kernel
theorem dX9_wins_17 : decode cX9_wins 17 = .ok (.ireturn, 1) := by decide +kernel
theorem dX9_wins_18 : decode cX9_wins 18 = .ok (.iload_n 3, 1) := by decide +kernel
theorem dX9_wins_19 : decode cX9_wins 19 = .ok (.invokestatic 169, 3) := by decide +kernel
theorem dX9_wins_22 : decode cX9_wins 22 = .ok (.ifCond .ne 6, 3) := by decide +kernel
theorem dX9_wins_25 : decode cX9_wins 25 = .ok (.bipush (-2), 2) := by decide +kernel
theorem dX9_wins_27 : decode cX9_wins 27 = .ok (.ireturn, 1) := by decide +kernel
theorem dX9_wins_28 : decode cX9_wins 28 = .ok (.aload_n 0, 1) := by decide +kernel
theorem dX9_wins_29 : decode cX9_wins 29 = .ok (.iload_n 3, 1) := by decide +kernel
theorem dX9_wins_30 : decode cX9_wins 30 = .ok (.invokevirtual 197, 3) := by decide +kernel
theorem dX9_wins_33 : decode cX9_wins 33 = .ok (.aload_n 0, 1) := by decide +kernel
theorem dX9_wins_34 : decode cX9_wins 34 = .ok (.iload_n 1, 1) := by decide +kernel
theorem dX9_wins_35 : decode cX9_wins 35 = .ok (.iload_n 2, 1) := by decide +kernel
theorem dX9_wins_36 : decode cX9_wins 36 = .ok (.invokevirtual 216, 3) := by decide +kernel
theorem dX9_wins_39 : decode cX9_wins 39 = .ok (.ireturn, 1) := by decide +kernel
theorem dX9_cheapest_0 : decode cX9_cheapest 0 = .ok (.aload_n 0, 1) := by decide +kernel
theorem dX9_cheapest_1 : decode cX9_cheapest 1 = .ok (.iload_n 1, 1) := by decide +kernel
theorem dX9_cheapest_2 : decode cX9_cheapest 2 = .ok (.invokevirtual 133, 3) := by decide +kernel
theorem dX9_cheapest_5 : decode cX9_cheapest 5 = .ok (.ifCond .ne 5, 3) := by decide +kernel
theorem dX9_cheapest_8 : decode cX9_cheapest 8 = .ok (.iconst (-1), 1) := by decide +kernel
theorem dX9_cheapest_9 : decode cX9_cheapest 9 = .ok (.ireturn, 1) := by decide +kernel
theorem dX9_cheapest_10 : decode cX9_cheapest 10 = .ok (.iload_n 2, 1) := by decide +kernel
theorem dX9_cheapest_11 : decode cX9_cheapest 11 = .ok (.invokestatic 169, 3) := by decide +kernel
theorem dX9_cheapest_14 : decode cX9_cheapest 14 = .ok (.ifCond .eq 12, 3) := by decide +kernel
theorem dX9_cheapest_17 : decode cX9_cheapest 17 = .ok (.iload_n 3, 1) := by decide +kernel
theorem dX9_cheapest_18 : decode cX9_cheapest 18 = .ok (.iconst 0, 1) := by decide +kernel
theorem dX9_cheapest_19 : decode cX9_cheapest 19 = .ok (.iconst 1, 1) := by decide +kernel
theorem dX9_cheapest_20 : decode cX9_cheapest 20 = .ok (.invokestatic 75, 3) := by decide +kernel
theorem dX9_cheapest_23 : decode cX9_cheapest 23 = .ok (.ifCond .ne 6, 3) := by decide +kernel
theorem dX9_cheapest_26 : decode cX9_cheapest 26 = .ok (.bipush (-2), 2) := by decide +kernel
theorem dX9_cheapest_28 : decode cX9_cheapest 28 = .ok (.ireturn, 1) := by decide +kernel
theorem dX9_cheapest_29 : decode cX9_cheapest 29 = .ok (.aload_n 0, 1) := by decide +kernel
theorem dX9_cheapest_30 : decode cX9_cheapest 30 = .ok (.iload_n 2, 1) := by decide +kernel
theorem dX9_cheapest_31 : decode cX9_cheapest 31 = .ok (.invokevirtual 197, 3) := by decide +kernel
theorem dX9_cheapest_34 : decode cX9_cheapest 34 = .ok (.bipush (-9), 2) := by decide +kernel
theorem dX9_cheapest_36 : decode cX9_cheapest 36 = .ok (.istore 4, 2) := by decide +kernel
theorem dX9_cheapest_38 : decode cX9_cheapest 38 = .ok (.bipush (-9), 2) := by decide +kernel
theorem dX9_cheapest_40 : decode cX9_cheapest 40 = .ok (.istore 5, 2) := by decide +kernel
theorem dX9_cheapest_42 : decode cX9_cheapest 42 = .ok (.iconst 0, 1) := by decide +kernel
theorem dX9_cheapest_43 : decode cX9_cheapest 43 = .ok (.istore 6, 2) := by decide +kernel
theorem dX9_cheapest_45 : decode cX9_cheapest 45 = .ok (.iload 6, 2) := by decide +kernel
theorem dX9_cheapest_47 : decode cX9_cheapest 47 = .ok (.aload_n 0, 1) := by decide +kernel
theorem dX9_cheapest_48 : decode cX9_cheapest 48 = .ok (.getfield 116, 3) := by decide +kernel
theorem dX9_cheapest_51 : decode cX9_cheapest 51 = .ok (.if_icmp .ge 88, 3) := by decide +kernel
theorem dX9_cheapest_54 : decode cX9_cheapest 54 = .ok (.aload_n 0, 1) := by decide +kernel
theorem dX9_cheapest_55 : decode cX9_cheapest 55 = .ok (.iload 6, 2) := by decide +kernel
theorem dX9_cheapest_57 : decode cX9_cheapest 57 = .ok (.iload_n 1, 1) := by decide +kernel
theorem dX9_cheapest_58 : decode cX9_cheapest 58 = .ok (.invokevirtual 216, 3) := by decide +kernel
theorem dX9_cheapest_61 : decode cX9_cheapest 61 = .ok (.istore 7, 2) := by decide +kernel
theorem dX9_cheapest_63 : decode cX9_cheapest 63 = .ok (.iload 7, 2) := by decide +kernel
theorem dX9_cheapest_65 : decode cX9_cheapest 65 = .ok (.bipush (-9), 2) := by decide +kernel
theorem dX9_cheapest_67 : decode cX9_cheapest 67 = .ok (.if_icmp .ne 9, 3) := by decide +kernel
theorem dX9_cheapest_70 : decode cX9_cheapest 70 = .ok (.sipush 1000, 3) := by decide +kernel
theorem dX9_cheapest_73 : decode cX9_cheapest 73 = .ok (.goto 29, 3) := by decide +kernel
theorem dX9_cheapest_76 : decode cX9_cheapest 76 = .ok (.iload 7, 2) := by decide +kernel
theorem dX9_cheapest_78 : decode cX9_cheapest 78 = .ok (.aload_n 0, 1) := by decide +kernel
theorem dX9_cheapest_79 : decode cX9_cheapest 79 = .ok (.getfield 35, 3) := by decide +kernel
theorem dX9_cheapest_82 : decode cX9_cheapest 82 = .ok (.iload 6, 2) := by decide +kernel
theorem dX9_cheapest_84 : decode cX9_cheapest 84 = .ok (.iaload, 1) := by decide +kernel
theorem dX9_cheapest_85 : decode cX9_cheapest 85 = .ok (.if_icmp .le 16, 3) := by decide +kernel
theorem dX9_cheapest_88 : decode cX9_cheapest 88 = .ok (.iload 7, 2) := by decide +kernel
theorem dX9_cheapest_90 : decode cX9_cheapest 90 = .ok (.aload_n 0, 1) := by decide +kernel
theorem dX9_cheapest_91 : decode cX9_cheapest 91 = .ok (.getfield 35, 3) := by decide +kernel
theorem dX9_cheapest_94 : decode cX9_cheapest 94 = .ok (.iload 6, 2) := by decide +kernel
theorem dX9_cheapest_96 : decode cX9_cheapest 96 = .ok (.iaload, 1) := by decide +kernel
theorem dX9_cheapest_97 : decode cX9_cheapest 97 = .ok (.isub, 1) := by decide +kernel
theorem dX9_cheapest_98 : decode cX9_cheapest 98 = .ok (.goto 4, 3) := by decide +kernel
theorem dX9_cheapest_101 : decode cX9_cheapest 101 = .ok (.iconst 0, 1) := by decide +kernel
theorem dX9_cheapest_102 : decode cX9_cheapest 102 = .ok (.istore 8, 2) := by decide +kernel
theorem dX9_cheapest_104 : decode cX9_cheapest 104 = .ok (.iload 7, 2) := by decide +kernel
theorem dX9_cheapest_106 : decode cX9_cheapest 106 = .ok (.bipush (-9), 2) := by decide +kernel
theorem dX9_cheapest_108 : decode cX9_cheapest 108 = .ok (.if_icmp .eq 25, 3) := by decide +kernel
theorem dX9_cheapest_111 : decode cX9_cheapest 111 = .ok (.iload 4, 2) := by decide +kernel
theorem dX9_cheapest_113 : decode cX9_cheapest 113 = .ok (.bipush (-9), 2) := by decide +kernel
theorem dX9_cheapest_115 : decode cX9_cheapest 115 = .ok (.if_icmp .eq 10, 3) := by decide +kernel
theorem dX9_cheapest_118 : decode cX9_cheapest 118 = .ok (.iload 8, 2) := by decide +kernel
theorem dX9_cheapest_120 : decode cX9_cheapest 120 = .ok (.iload 5, 2) := by decide +kernel
theorem dX9_cheapest_122 : decode cX9_cheapest 122 = .ok (.if_icmp .ge 11, 3) := by decide +kernel
theorem dX9_cheapest_125 : decode cX9_cheapest 125 = .ok (.iload 6, 2) := by decide +kernel
theorem dX9_cheapest_127 : decode cX9_cheapest 127 = .ok (.istore 4, 2) := by decide +kernel
theorem dX9_cheapest_129 : decode cX9_cheapest 129 = .ok (.iload 8, 2) := by decide +kernel
theorem dX9_cheapest_131 : decode cX9_cheapest 131 = .ok (.istore 5, 2) := by decide +kernel
theorem dX9_cheapest_133 : decode cX9_cheapest 133 = .ok (.iinc 6 1, 3) := by decide +kernel
theorem dX9_cheapest_136 : decode cX9_cheapest 136 = .ok (.goto (-91), 3) := by decide +kernel
theorem dX9_cheapest_139 : decode cX9_cheapest 139 = .ok (.iload_n 3, 1) := by decide +kernel
theorem dX9_cheapest_140 : decode cX9_cheapest 140 = .ok (.ifCond .ne 8, 3) := by decide +kernel
theorem dX9_cheapest_143 : decode cX9_cheapest 143 = .ok (.iload 4, 2) := by decide +kernel
theorem dX9_cheapest_145 : decode cX9_cheapest 145 = .ok (.goto 5, 3) := by decide +kernel
theorem dX9_cheapest_148 : decode cX9_cheapest 148 = .ok (.iload 5, 2) := by decide +kernel
theorem dX9_cheapest_150 : decode cX9_cheapest 150 = .ok (.ireturn, 1) := by decide +kernel
theorem dX9_ownCells_0 : decode cX9_ownCells 0 = .ok (.iconst 0, 1) := by decide +kernel
theorem dX9_ownCells_1 : decode cX9_ownCells 1 = .ok (.istore_n 2, 1) := by decide +kernel
theorem dX9_ownCells_2 : decode cX9_ownCells 2 = .ok (.iconst 0, 1) := by decide +kernel
theorem dX9_ownCells_3 : decode cX9_ownCells 3 = .ok (.istore_n 3, 1) := by decide +kernel
theorem dX9_ownCells_4 : decode cX9_ownCells 4 = .ok (.iload_n 3, 1) := by decide +kernel
theorem dX9_ownCells_5 : decode cX9_ownCells 5 = .ok (.aload_n 0, 1) := by decide +kernel
theorem dX9_ownCells_6 : decode cX9_ownCells 6 = .ok (.invokevirtual 85, 3) := by decide +kernel
theorem dX9_ownCells_9 : decode cX9_ownCells 9 = .ok (.if_icmp .ge 26, 3) := by decide +kernel
theorem dX9_ownCells_12 : decode cX9_ownCells 12 = .ok (.iload_n 2, 1) := by decide +kernel
theorem dX9_ownCells_13 : decode cX9_ownCells 13 = .ok (.aload_n 0, 1) := by decide +kernel
theorem dX9_ownCells_14 : decode cX9_ownCells 14 = .ok (.iload_n 3, 1) := by decide +kernel
theorem dX9_ownCells_15 : decode cX9_ownCells 15 = .ok (.invokevirtual 201, 3) := by decide +kernel
theorem dX9_ownCells_18 : decode cX9_ownCells 18 = .ok (.iload_n 1, 1) := by decide +kernel
theorem dX9_ownCells_19 : decode cX9_ownCells 19 = .ok (.if_icmp .ne 7, 3) := by decide +kernel
theorem dX9_ownCells_22 : decode cX9_ownCells 22 = .ok (.iconst 1, 1) := by decide +kernel
theorem dX9_ownCells_23 : decode cX9_ownCells 23 = .ok (.goto 4, 3) := by decide +kernel
theorem dX9_ownCells_26 : decode cX9_ownCells 26 = .ok (.iconst 0, 1) := by decide +kernel
theorem dX9_ownCells_27 : decode cX9_ownCells 27 = .ok (.iadd, 1) := by decide +kernel
theorem dX9_ownCells_28 : decode cX9_ownCells 28 = .ok (.istore_n 2, 1) := by decide +kernel
theorem dX9_ownCells_29 : decode cX9_ownCells 29 = .ok (.iinc 3 1, 3) := by decide +kernel
theorem dX9_ownCells_32 : decode cX9_ownCells 32 = .ok (.goto (-28), 3) := by decide +kernel
theorem dX9_ownCells_35 : decode cX9_ownCells 35 = .ok (.iload_n 2, 1) := by decide +kernel
theorem dX9_ownCells_36 : decode cX9_ownCells 36 = .ok (.ireturn, 1) := by decide +kernel
theorem dX9_hang_0 : decode cX9_hang 0 = .ok (.iload_n 1, 1) := by decide +kernel
theorem dX9_hang_1 : decode cX9_hang 1 = .ok (.iconst 0, 1) := by decide +kernel
theorem dX9_hang_2 : decode cX9_hang 2 = .ok (.iconst 2, 1) := by decide +kernel
theorem dX9_hang_3 : decode cX9_hang 3 = .ok (.invokestatic 75, 3) := by decide +kernel
theorem dX9_hang_6 : decode cX9_hang 6 = .ok (.ifCond .eq 27, 3) := by decide +kernel
theorem dX9_hang_9 : decode cX9_hang 9 = .ok (.iload_n 2, 1) := by decide +kernel
theorem dX9_hang_10 : decode cX9_hang 10 = .ok (.invokestatic 142, 3) := by decide +kernel
theorem dX9_hang_13 : decode cX9_hang 13 = .ok (.ifCond .eq 20, 3) := by decide +kernel
theorem dX9_hang_16 : decode cX9_hang 16 = .ok (.iload_n 3, 1) := by decide +kernel
theorem dX9_hang_17 : decode cX9_hang 17 = .ok (.invokestatic 169, 3) := by decide +kernel
theorem dX9_hang_20 : decode cX9_hang 20 = .ok (.ifCond .eq 13, 3) := by decide +kernel
theorem dX9_hang_23 : decode cX9_hang 23 = .ok (.iload 4, 2) := by decide +kernel
theorem dX9_hang_25 : decode cX9_hang 25 = .ok (.iconst 0, 1) := by decide +kernel
theorem dX9_hang_26 : decode cX9_hang 26 = .ok (.iconst 1, 1) := by decide +kernel
theorem dX9_hang_27 : decode cX9_hang 27 = .ok (.invokestatic 75, 3) := by decide +kernel
theorem dX9_hang_30 : decode cX9_hang 30 = .ok (.ifCond .ne 6, 3) := by decide +kernel
theorem dX9_hang_33 : decode cX9_hang 33 = .ok (.bipush (-2), 2) := by decide +kernel
theorem dX9_hang_35 : decode cX9_hang 35 = .ok (.ireturn, 1) := by decide +kernel
theorem dX9_hang_36 : decode cX9_hang 36 = .ok (.aload_n 0, 1) := by decide +kernel
theorem dX9_hang_37 : decode cX9_hang 37 = .ok (.invokevirtual 85, 3) := by decide +kernel
theorem dX9_hang_40 : decode cX9_hang 40 = .ok (.ifCond .ne 6, 3) := by decide +kernel
theorem dX9_hang_43 : decode cX9_hang 43 = .ok (.bipush (-3), 2) := by decide +kernel
theorem dX9_hang_45 : decode cX9_hang 45 = .ok (.ireturn, 1) := by decide +kernel
theorem dX9_hang_46 : decode cX9_hang 46 = .ok (.aload_n 0, 1) := by decide +kernel
theorem dX9_hang_47 : decode cX9_hang 47 = .ok (.getfield 116, 3) := by decide +kernel
theorem dX9_hang_50 : decode cX9_hang 50 = .ok (.bipush 6, 2) := by decide +kernel
theorem dX9_hang_52 : decode cX9_hang 52 = .ok (.if_icmp .ne 6, 3) := by decide +kernel
theorem dX9_hang_55 : decode cX9_hang 55 = .ok (.bipush (-4), 2) := by decide +kernel
theorem dX9_hang_57 : decode cX9_hang 57 = .ok (.ireturn, 1) := by decide +kernel
theorem dX9_hang_58 : decode cX9_hang 58 = .ok (.aload_n 0, 1) := by decide +kernel
theorem dX9_hang_59 : decode cX9_hang 59 = .ok (.iload_n 3, 1) := by decide +kernel
theorem dX9_hang_60 : decode cX9_hang 60 = .ok (.invokevirtual 197, 3) := by decide +kernel
theorem dX9_hang_63 : decode cX9_hang 63 = .ok (.aload_n 0, 1) := by decide +kernel
theorem dX9_hang_64 : decode cX9_hang 64 = .ok (.getfield 116, 3) := by decide +kernel
theorem dX9_hang_67 : decode cX9_hang 67 = .ok (.istore 5, 2) := by decide +kernel
theorem dX9_hang_69 : decode cX9_hang 69 = .ok (.aload_n 0, 1) := by decide +kernel
theorem dX9_hang_70 : decode cX9_hang 70 = .ok (.getfield 29, 3) := by decide +kernel
theorem dX9_hang_73 : decode cX9_hang 73 = .ok (.iload 5, 2) := by decide +kernel
theorem dX9_hang_75 : decode cX9_hang 75 = .ok (.iload_n 1, 1) := by decide +kernel
theorem dX9_hang_76 : decode cX9_hang 76 = .ok (.iastore, 1) := by decide +kernel
theorem dX9_hang_77 : decode cX9_hang 77 = .ok (.aload_n 0, 1) := by decide +kernel
theorem dX9_hang_78 : decode cX9_hang 78 = .ok (.getfield 35, 3) := by decide +kernel
theorem dX9_hang_81 : decode cX9_hang 81 = .ok (.iload 5, 2) := by decide +kernel
theorem dX9_hang_83 : decode cX9_hang 83 = .ok (.iload_n 2, 1) := by decide +kernel
theorem dX9_hang_84 : decode cX9_hang 84 = .ok (.iastore, 1) := by decide +kernel
theorem dX9_hang_85 : decode cX9_hang 85 = .ok (.aload_n 0, 1) := by decide +kernel
theorem dX9_hang_86 : decode cX9_hang 86 = .ok (.dup, 1) := by decide +kernel
theorem dX9_hang_87 : decode cX9_hang 87 = .ok (.getfield 116, 3) := by decide +kernel
theorem dX9_hang_90 : decode cX9_hang 90 = .ok (.iconst 1, 1) := by decide +kernel
theorem dX9_hang_91 : decode cX9_hang 91 = .ok (.iadd, 1) := by decide +kernel
theorem dX9_hang_92 : decode cX9_hang 92 = .ok (.putfield 116, 3) := by decide +kernel
theorem dX9_hang_95 : decode cX9_hang 95 = .ok (.iconst 0, 1) := by decide +kernel
theorem dX9_hang_96 : decode cX9_hang 96 = .ok (.istore 6, 2) := by decide +kernel
theorem dX9_hang_98 : decode cX9_hang 98 = .ok (.iconst (-1), 1) := by decide +kernel
theorem dX9_hang_99 : decode cX9_hang 99 = .ok (.istore 7, 2) := by decide +kernel
theorem dX9_hang_101 : decode cX9_hang 101 = .ok (.iconst 0, 1) := by decide +kernel
theorem dX9_hang_102 : decode cX9_hang 102 = .ok (.istore 8, 2) := by decide +kernel
theorem dX9_hang_104 : decode cX9_hang 104 = .ok (.iload 8, 2) := by decide +kernel
theorem dX9_hang_106 : decode cX9_hang 106 = .ok (.aload_n 0, 1) := by decide +kernel
theorem dX9_hang_107 : decode cX9_hang 107 = .ok (.invokevirtual 85, 3) := by decide +kernel
theorem dX9_hang_110 : decode cX9_hang 110 = .ok (.if_icmp .ge 48, 3) := by decide +kernel
theorem dX9_hang_113 : decode cX9_hang 113 = .ok (.aload_n 0, 1) := by decide +kernel
theorem dX9_hang_114 : decode cX9_hang 114 = .ok (.getfield 32, 3) := by decide +kernel
theorem dX9_hang_117 : decode cX9_hang 117 = .ok (.iload 5, 2) := by decide +kernel
theorem dX9_hang_119 : decode cX9_hang 119 = .ok (.iload 8, 2) := by decide +kernel
theorem dX9_hang_121 : decode cX9_hang 121 = .ok (.iastore, 1) := by decide +kernel
theorem dX9_hang_122 : decode cX9_hang 122 = .ok (.aload_n 0, 1) := by decide +kernel
theorem dX9_hang_123 : decode cX9_hang 123 = .ok (.iload 5, 2) := by decide +kernel
theorem dX9_hang_125 : decode cX9_hang 125 = .ok (.iload_n 3, 1) := by decide +kernel
theorem dX9_hang_126 : decode cX9_hang 126 = .ok (.invokevirtual 180, 3) := by decide +kernel
theorem dX9_hang_129 : decode cX9_hang 129 = .ok (.aload_n 0, 1) := by decide +kernel
theorem dX9_hang_130 : decode cX9_hang 130 = .ok (.iload 5, 2) := by decide +kernel
theorem dX9_hang_132 : decode cX9_hang 132 = .ok (.invokevirtual 219, 3) := by decide +kernel
theorem dX9_hang_135 : decode cX9_hang 135 = .ok (.istore 9, 2) := by decide +kernel
theorem dX9_hang_137 : decode cX9_hang 137 = .ok (.iload 9, 2) := by decide +kernel
theorem dX9_hang_139 : decode cX9_hang 139 = .ok (.iload 7, 2) := by decide +kernel
theorem dX9_hang_141 : decode cX9_hang 141 = .ok (.if_icmp .le 11, 3) := by decide +kernel
theorem dX9_hang_144 : decode cX9_hang 144 = .ok (.iload 9, 2) := by decide +kernel
theorem dX9_hang_146 : decode cX9_hang 146 = .ok (.istore 7, 2) := by decide +kernel
theorem dX9_hang_148 : decode cX9_hang 148 = .ok (.iload 8, 2) := by decide +kernel
theorem dX9_hang_150 : decode cX9_hang 150 = .ok (.istore 6, 2) := by decide +kernel
theorem dX9_hang_152 : decode cX9_hang 152 = .ok (.iinc 8 1, 3) := by decide +kernel
theorem dX9_hang_155 : decode cX9_hang 155 = .ok (.goto (-51), 3) := by decide +kernel
theorem dX9_hang_158 : decode cX9_hang 158 = .ok (.aload_n 0, 1) := by decide +kernel
theorem dX9_hang_159 : decode cX9_hang 159 = .ok (.dup, 1) := by decide +kernel
theorem dX9_hang_160 : decode cX9_hang 160 = .ok (.getfield 116, 3) := by decide +kernel
theorem dX9_hang_163 : decode cX9_hang 163 = .ok (.iconst 1, 1) := by decide +kernel
theorem dX9_hang_164 : decode cX9_hang 164 = .ok (.isub, 1) := by decide +kernel
theorem dX9_hang_165 : decode cX9_hang 165 = .ok (.putfield 116, 3) := by decide +kernel
theorem dX9_hang_168 : decode cX9_hang 168 = .ok (.iload 4, 2) := by decide +kernel
theorem dX9_hang_170 : decode cX9_hang 170 = .ok (.ifCond .ne 8, 3) := by decide +kernel
theorem dX9_hang_173 : decode cX9_hang 173 = .ok (.iload 6, 2) := by decide +kernel
theorem dX9_hang_175 : decode cX9_hang 175 = .ok (.goto 5, 3) := by decide +kernel
theorem dX9_hang_178 : decode cX9_hang 178 = .ok (.iload 7, 2) := by decide +kernel
theorem dX9_hang_180 : decode cX9_hang 180 = .ok (.ireturn, 1) := by decide +kernel
theorem dX9_isTheirs_0 : decode cX9_isTheirs 0 = .ok (.aload_n 0, 1) := by decide +kernel
theorem dX9_isTheirs_1 : decode cX9_isTheirs 1 = .ok (.getfield 35, 3) := by decide +kernel
theorem dX9_isTheirs_4 : decode cX9_isTheirs 4 = .ok (.iload_n 1, 1) := by decide +kernel
theorem dX9_isTheirs_5 : decode cX9_isTheirs 5 = .ok (.iaload, 1) := by decide +kernel
theorem dX9_isTheirs_6 : decode cX9_isTheirs 6 = .ok (.i2l, 1) := by decide +kernel
theorem dX9_isTheirs_7 : decode cX9_isTheirs 7 = .ok (.aload_n 0, 1) := by decide +kernel
theorem dX9_isTheirs_8 : decode cX9_isTheirs 8 = .ok (.getfield 38, 3) := by decide +kernel
theorem dX9_isTheirs_11 : decode cX9_isTheirs 11 = .ok (.bipush 30, 2) := by decide +kernel
theorem dX9_isTheirs_13 : decode cX9_isTheirs 13 = .ok (.iload_n 1, 1) := by decide +kernel
theorem dX9_isTheirs_14 : decode cX9_isTheirs 14 = .ok (.imul, 1) := by decide +kernel
theorem dX9_isTheirs_15 : decode cX9_isTheirs 15 = .ok (.iload_n 3, 1) := by decide +kernel
theorem dX9_isTheirs_16 : decode cX9_isTheirs 16 = .ok (.iadd, 1) := by decide +kernel
theorem dX9_isTheirs_17 : decode cX9_isTheirs 17 = .ok (.laload, 1) := by decide +kernel
theorem dX9_isTheirs_18 : decode cX9_isTheirs 18 = .ok (.lmul, 1) := by decide +kernel
theorem dX9_isTheirs_19 : decode cX9_isTheirs 19 = .ok (.lstore 4, 2) := by decide +kernel
theorem dX9_isTheirs_21 : decode cX9_isTheirs 21 = .ok (.aload_n 0, 1) := by decide +kernel
theorem dX9_isTheirs_22 : decode cX9_isTheirs 22 = .ok (.getfield 35, 3) := by decide +kernel
theorem dX9_isTheirs_25 : decode cX9_isTheirs 25 = .ok (.iload_n 2, 1) := by decide +kernel
theorem dX9_isTheirs_26 : decode cX9_isTheirs 26 = .ok (.iaload, 1) := by decide +kernel
theorem dX9_isTheirs_27 : decode cX9_isTheirs 27 = .ok (.i2l, 1) := by decide +kernel
theorem dX9_isTheirs_28 : decode cX9_isTheirs 28 = .ok (.aload_n 0, 1) := by decide +kernel
theorem dX9_isTheirs_29 : decode cX9_isTheirs 29 = .ok (.getfield 38, 3) := by decide +kernel
theorem dX9_isTheirs_32 : decode cX9_isTheirs 32 = .ok (.bipush 30, 2) := by decide +kernel
theorem dX9_isTheirs_34 : decode cX9_isTheirs 34 = .ok (.iload_n 2, 1) := by decide +kernel
theorem dX9_isTheirs_35 : decode cX9_isTheirs 35 = .ok (.imul, 1) := by decide +kernel
theorem dX9_isTheirs_36 : decode cX9_isTheirs 36 = .ok (.iload_n 3, 1) := by decide +kernel
theorem dX9_isTheirs_37 : decode cX9_isTheirs 37 = .ok (.iadd, 1) := by decide +kernel
theorem dX9_isTheirs_38 : decode cX9_isTheirs 38 = .ok (.laload, 1) := by decide +kernel
theorem dX9_isTheirs_39 : decode cX9_isTheirs 39 = .ok (.lmul, 1) := by decide +kernel
theorem dX9_isTheirs_40 : decode cX9_isTheirs 40 = .ok (.lstore 6, 2) := by decide +kernel
theorem dX9_isTheirs_42 : decode cX9_isTheirs 42 = .ok (.lload 4, 2) := by decide +kernel
theorem dX9_isTheirs_44 : decode cX9_isTheirs 44 = .ok (.aload_n 0, 1) := by decide +kernel
theorem dX9_isTheirs_45 : decode cX9_isTheirs 45 = .ok (.getfield 42, 3) := by decide +kernel
theorem dX9_isTheirs_48 : decode cX9_isTheirs 48 = .ok (.bipush 30, 2) := by decide +kernel
theorem dX9_isTheirs_50 : decode cX9_isTheirs 50 = .ok (.iload_n 2, 1) := by decide +kernel
theorem dX9_isTheirs_51 : decode cX9_isTheirs 51 = .ok (.imul, 1) := by decide +kernel
theorem dX9_isTheirs_52 : decode cX9_isTheirs 52 = .ok (.iload_n 3, 1) := by decide +kernel
theorem dX9_isTheirs_53 : decode cX9_isTheirs 53 = .ok (.iadd, 1) := by decide +kernel
theorem dX9_isTheirs_54 : decode cX9_isTheirs 54 = .ok (.laload, 1) := by decide +kernel
theorem dX9_isTheirs_55 : decode cX9_isTheirs 55 = .ok (.lmul, 1) := by decide +kernel
theorem dX9_isTheirs_56 : decode cX9_isTheirs 56 = .ok (.lload 6, 2) := by decide +kernel
theorem dX9_isTheirs_58 : decode cX9_isTheirs 58 = .ok (.aload_n 0, 1) := by decide +kernel
theorem dX9_isTheirs_59 : decode cX9_isTheirs 59 = .ok (.getfield 42, 3) := by decide +kernel
theorem dX9_isTheirs_62 : decode cX9_isTheirs 62 = .ok (.bipush 30, 2) := by decide +kernel
theorem dX9_isTheirs_64 : decode cX9_isTheirs 64 = .ok (.iload_n 1, 1) := by decide +kernel
theorem dX9_isTheirs_65 : decode cX9_isTheirs 65 = .ok (.imul, 1) := by decide +kernel
theorem dX9_isTheirs_66 : decode cX9_isTheirs 66 = .ok (.iload_n 3, 1) := by decide +kernel
theorem dX9_isTheirs_67 : decode cX9_isTheirs 67 = .ok (.iadd, 1) := by decide +kernel
theorem dX9_isTheirs_68 : decode cX9_isTheirs 68 = .ok (.laload, 1) := by decide +kernel
theorem dX9_isTheirs_69 : decode cX9_isTheirs 69 = .ok (.lmul, 1) := by decide +kernel
theorem dX9_isTheirs_70 : decode cX9_isTheirs 70 = .ok (.ladd, 1) := by decide +kernel
theorem dX9_isTheirs_71 : decode cX9_isTheirs 71 = .ok (.lstore 8, 2) := by decide +kernel
theorem dX9_isTheirs_73 : decode cX9_isTheirs 73 = .ok (.aload_n 0, 1) := by decide +kernel
theorem dX9_isTheirs_74 : decode cX9_isTheirs 74 = .ok (.getfield 42, 3) := by decide +kernel
theorem dX9_isTheirs_77 : decode cX9_isTheirs 77 = .ok (.bipush 30, 2) := by decide +kernel
theorem dX9_isTheirs_79 : decode cX9_isTheirs 79 = .ok (.iload_n 1, 1) := by decide +kernel
theorem dX9_isTheirs_80 : decode cX9_isTheirs 80 = .ok (.imul, 1) := by decide +kernel
theorem dX9_isTheirs_81 : decode cX9_isTheirs 81 = .ok (.iload_n 3, 1) := by decide +kernel
theorem dX9_isTheirs_82 : decode cX9_isTheirs 82 = .ok (.iadd, 1) := by decide +kernel
theorem dX9_isTheirs_83 : decode cX9_isTheirs 83 = .ok (.laload, 1) := by decide +kernel
theorem dX9_isTheirs_84 : decode cX9_isTheirs 84 = .ok (.aload_n 0, 1) := by decide +kernel
theorem dX9_isTheirs_85 : decode cX9_isTheirs 85 = .ok (.getfield 42, 3) := by decide +kernel
theorem dX9_isTheirs_88 : decode cX9_isTheirs 88 = .ok (.bipush 30, 2) := by decide +kernel
theorem dX9_isTheirs_90 : decode cX9_isTheirs 90 = .ok (.iload_n 2, 1) := by decide +kernel
theorem dX9_isTheirs_91 : decode cX9_isTheirs 91 = .ok (.imul, 1) := by decide +kernel
theorem dX9_isTheirs_92 : decode cX9_isTheirs 92 = .ok (.iload_n 3, 1) := by decide +kernel
theorem dX9_isTheirs_93 : decode cX9_isTheirs 93 = .ok (.iadd, 1) := by decide +kernel
theorem dX9_isTheirs_94 : decode cX9_isTheirs 94 = .ok (.laload, 1) := by decide +kernel
theorem dX9_isTheirs_95 : decode cX9_isTheirs 95 = .ok (.lmul, 1) := by decide +kernel
theorem dX9_isTheirs_96 : decode cX9_isTheirs 96 = .ok (.lstore 10, 2) := by decide +kernel
theorem dX9_isTheirs_98 : decode cX9_isTheirs 98 = .ok (.ldc2_w 167, 3) := by decide +kernel
theorem dX9_isTheirs_101 : decode cX9_isTheirs 101 = .ok (.lload 8, 2) := by decide +kernel
theorem dX9_isTheirs_103 : decode cX9_isTheirs 103 = .ok (.lmul, 1) := by decide +kernel
theorem dX9_isTheirs_104 : decode cX9_isTheirs 104 = .ok (.aload_n 0, 1) := by decide +kernel
theorem dX9_isTheirs_105 : decode cX9_isTheirs 105 = .ok (.getfield 122, 3) := by decide +kernel
theorem dX9_isTheirs_108 : decode cX9_isTheirs 108 = .ok (.i2l, 1) := by decide +kernel
theorem dX9_isTheirs_109 : decode cX9_isTheirs 109 = .ok (.lload 10, 2) := by decide +kernel
theorem dX9_isTheirs_111 : decode cX9_isTheirs 111 = .ok (.lmul, 1) := by decide +kernel
theorem dX9_isTheirs_112 : decode cX9_isTheirs 112 = .ok (.lcmp, 1) := by decide +kernel
theorem dX9_isTheirs_113 : decode cX9_isTheirs 113 = .ok (.ifCond .ge 5, 3) := by decide +kernel
theorem dX9_isTheirs_116 : decode cX9_isTheirs 116 = .ok (.iconst 0, 1) := by decide +kernel
theorem dX9_isTheirs_117 : decode cX9_isTheirs 117 = .ok (.ireturn, 1) := by decide +kernel
theorem dX9_isTheirs_118 : decode cX9_isTheirs 118 = .ok (.iconst 0, 1) := by decide +kernel
theorem dX9_isTheirs_119 : decode cX9_isTheirs 119 = .ok (.istore 12, 2) := by decide +kernel
theorem dX9_isTheirs_121 : decode cX9_isTheirs 121 = .ok (.iload 12, 2) := by decide +kernel
theorem dX9_isTheirs_123 : decode cX9_isTheirs 123 = .ok (.aload_n 0, 1) := by decide +kernel
theorem dX9_isTheirs_124 : decode cX9_isTheirs 124 = .ok (.getfield 116, 3) := by decide +kernel
theorem dX9_isTheirs_127 : decode cX9_isTheirs 127 = .ok (.if_icmp .ge 66, 3) := by decide +kernel
theorem dX9_isTheirs_130 : decode cX9_isTheirs 130 = .ok (.iload 12, 2) := by decide +kernel
theorem dX9_isTheirs_132 : decode cX9_isTheirs 132 = .ok (.iload_n 1, 1) := by decide +kernel
theorem dX9_isTheirs_133 : decode cX9_isTheirs 133 = .ok (.if_icmp .eq 54, 3) := by decide +kernel
theorem dX9_isTheirs_136 : decode cX9_isTheirs 136 = .ok (.iload 12, 2) := by decide +kernel
theorem dX9_isTheirs_138 : decode cX9_isTheirs 138 = .ok (.iload_n 2, 1) := by decide +kernel
theorem dX9_isTheirs_139 : decode cX9_isTheirs 139 = .ok (.if_icmp .eq 48, 3) := by decide +kernel
theorem dX9_isTheirs_142 : decode cX9_isTheirs 142 = .ok (.aload_n 0, 1) := by decide +kernel
theorem dX9_isTheirs_143 : decode cX9_isTheirs 143 = .ok (.getfield 35, 3) := by decide +kernel
theorem dX9_isTheirs_146 : decode cX9_isTheirs 146 = .ok (.iload 12, 2) := by decide +kernel
theorem dX9_isTheirs_148 : decode cX9_isTheirs 148 = .ok (.iaload, 1) := by decide +kernel
theorem dX9_isTheirs_149 : decode cX9_isTheirs 149 = .ok (.i2l, 1) := by decide +kernel
theorem dX9_isTheirs_150 : decode cX9_isTheirs 150 = .ok (.aload_n 0, 1) := by decide +kernel
theorem dX9_isTheirs_151 : decode cX9_isTheirs 151 = .ok (.getfield 38, 3) := by decide +kernel
theorem dX9_isTheirs_154 : decode cX9_isTheirs 154 = .ok (.bipush 30, 2) := by decide +kernel
theorem dX9_isTheirs_156 : decode cX9_isTheirs 156 = .ok (.iload 12, 2) := by decide +kernel
theorem dX9_isTheirs_158 : decode cX9_isTheirs 158 = .ok (.imul, 1) := by decide +kernel
theorem dX9_isTheirs_159 : decode cX9_isTheirs 159 = .ok (.iload_n 3, 1) := by decide +kernel
theorem dX9_isTheirs_160 : decode cX9_isTheirs 160 = .ok (.iadd, 1) := by decide +kernel
theorem dX9_isTheirs_161 : decode cX9_isTheirs 161 = .ok (.laload, 1) := by decide +kernel
theorem dX9_isTheirs_162 : decode cX9_isTheirs 162 = .ok (.lmul, 1) := by decide +kernel
theorem dX9_isTheirs_163 : decode cX9_isTheirs 163 = .ok (.lload 10, 2) := by decide +kernel
theorem dX9_isTheirs_165 : decode cX9_isTheirs 165 = .ok (.lmul, 1) := by decide +kernel
theorem dX9_isTheirs_166 : decode cX9_isTheirs 166 = .ok (.lload 8, 2) := by decide +kernel
theorem dX9_isTheirs_168 : decode cX9_isTheirs 168 = .ok (.aload_n 0, 1) := by decide +kernel
theorem dX9_isTheirs_169 : decode cX9_isTheirs 169 = .ok (.getfield 42, 3) := by decide +kernel
theorem dX9_isTheirs_172 : decode cX9_isTheirs 172 = .ok (.bipush 30, 2) := by decide +kernel
theorem dX9_isTheirs_174 : decode cX9_isTheirs 174 = .ok (.iload 12, 2) := by decide +kernel
theorem dX9_isTheirs_176 : decode cX9_isTheirs 176 = .ok (.imul, 1) := by decide +kernel
theorem dX9_isTheirs_177 : decode cX9_isTheirs 177 = .ok (.iload_n 3, 1) := by decide +kernel
theorem dX9_isTheirs_178 : decode cX9_isTheirs 178 = .ok (.iadd, 1) := by decide +kernel
theorem dX9_isTheirs_179 : decode cX9_isTheirs 179 = .ok (.laload, 1) := by decide +kernel
theorem dX9_isTheirs_180 : decode cX9_isTheirs 180 = .ok (.lmul, 1) := by decide +kernel
theorem dX9_isTheirs_181 : decode cX9_isTheirs 181 = .ok (.lcmp, 1) := by decide +kernel
theorem dX9_isTheirs_182 : decode cX9_isTheirs 182 = .ok (.ifCond .lt 5, 3) := by decide +kernel
theorem dX9_isTheirs_185 : decode cX9_isTheirs 185 = .ok (.iconst 0, 1) := by decide +kernel
theorem dX9_isTheirs_186 : decode cX9_isTheirs 186 = .ok (.ireturn, 1) := by decide +kernel
theorem dX9_isTheirs_187 : decode cX9_isTheirs 187 = .ok (.iinc 12 1, 3) := by decide +kernel
theorem dX9_isTheirs_190 : decode cX9_isTheirs 190 = .ok (.goto (-69), 3) := by decide +kernel
theorem dX9_isTheirs_193 : decode cX9_isTheirs 193 = .ok (.iconst 1, 1) := by decide +kernel
theorem dX9_isTheirs_194 : decode cX9_isTheirs 194 = .ok (.ireturn, 1) := by decide +kernel
theorem dX9_together_0 : decode cX9_together 0 = .ok (.aload_n 0, 1) := by decide +kernel
theorem dX9_together_1 : decode cX9_together 1 = .ok (.iload_n 1, 1) := by decide +kernel
theorem dX9_together_2 : decode cX9_together 2 = .ok (.invokevirtual 145, 3) := by decide +kernel
theorem dX9_together_5 : decode cX9_together 5 = .ok (.ifCond .eq 16, 3) := by decide +kernel
theorem dX9_together_8 : decode cX9_together 8 = .ok (.aload_n 0, 1) := by decide +kernel
theorem dX9_together_9 : decode cX9_together 9 = .ok (.iload_n 2, 1) := by decide +kernel
theorem dX9_together_10 : decode cX9_together 10 = .ok (.invokevirtual 145, 3) := by decide +kernel
theorem dX9_together_13 : decode cX9_together 13 = .ok (.ifCond .eq 8, 3) := by decide +kernel
theorem dX9_together_16 : decode cX9_together 16 = .ok (.iload_n 1, 1) := by decide +kernel
theorem dX9_together_17 : decode cX9_together 17 = .ok (.iload_n 2, 1) := by decide +kernel
theorem dX9_together_18 : decode cX9_together 18 = .ok (.if_icmp .ne 5, 3) := by decide +kernel
theorem dX9_together_21 : decode cX9_together 21 = .ok (.iconst (-1), 1) := by decide +kernel
theorem dX9_together_22 : decode cX9_together 22 = .ok (.ireturn, 1) := by decide +kernel
theorem dX9_together_23 : decode cX9_together 23 = .ok (.iload_n 3, 1) := by decide +kernel
theorem dX9_together_24 : decode cX9_together 24 = .ok (.invokestatic 169, 3) := by decide +kernel
theorem dX9_together_27 : decode cX9_together 27 = .ok (.ifCond .ne 6, 3) := by decide +kernel
theorem dX9_together_30 : decode cX9_together 30 = .ok (.bipush (-2), 2) := by decide +kernel
theorem dX9_together_32 : decode cX9_together 32 = .ok (.ireturn, 1) := by decide +kernel
theorem dX9_together_33 : decode cX9_together 33 = .ok (.aload_n 0, 1) := by decide +kernel
theorem dX9_together_34 : decode cX9_together 34 = .ok (.iload_n 3, 1) := by decide +kernel
theorem dX9_together_35 : decode cX9_together 35 = .ok (.invokevirtual 197, 3) := by decide +kernel
theorem dX9_together_38 : decode cX9_together 38 = .ok (.iconst 0, 1) := by decide +kernel
theorem dX9_together_39 : decode cX9_together 39 = .ok (.istore 4, 2) := by decide +kernel
theorem dX9_together_41 : decode cX9_together 41 = .ok (.iconst 0, 1) := by decide +kernel
theorem dX9_together_42 : decode cX9_together 42 = .ok (.istore 5, 2) := by decide +kernel
theorem dX9_together_44 : decode cX9_together 44 = .ok (.iload 5, 2) := by decide +kernel
theorem dX9_together_46 : decode cX9_together 46 = .ok (.aload_n 0, 1) := by decide +kernel
theorem dX9_together_47 : decode cX9_together 47 = .ok (.invokevirtual 85, 3) := by decide +kernel
theorem dX9_together_50 : decode cX9_together 50 = .ok (.if_icmp .ge 33, 3) := by decide +kernel
theorem dX9_together_53 : decode cX9_together 53 = .ok (.iload 4, 2) := by decide +kernel
theorem dX9_together_55 : decode cX9_together 55 = .ok (.aload_n 0, 1) := by decide +kernel
theorem dX9_together_56 : decode cX9_together 56 = .ok (.iload_n 1, 1) := by decide +kernel
theorem dX9_together_57 : decode cX9_together 57 = .ok (.iload_n 2, 1) := by decide +kernel
theorem dX9_together_58 : decode cX9_together 58 = .ok (.iload 5, 2) := by decide +kernel
theorem dX9_together_60 : decode cX9_together 60 = .ok (.invokevirtual 222, 3) := by decide +kernel
theorem dX9_together_63 : decode cX9_together 63 = .ok (.ifCond .eq 10, 3) := by decide +kernel
theorem dX9_together_66 : decode cX9_together 66 = .ok (.iconst 1, 1) := by decide +kernel
theorem dX9_together_67 : decode cX9_together 67 = .ok (.iload 5, 2) := by decide +kernel
theorem dX9_together_69 : decode cX9_together 69 = .ok (.ishl, 1) := by decide +kernel
theorem dX9_together_70 : decode cX9_together 70 = .ok (.goto 4, 3) := by decide +kernel
theorem dX9_together_73 : decode cX9_together 73 = .ok (.iconst 0, 1) := by decide +kernel
theorem dX9_together_74 : decode cX9_together 74 = .ok (.ior, 1) := by decide +kernel
theorem dX9_together_75 : decode cX9_together 75 = .ok (.istore 4, 2) := by decide +kernel
theorem dX9_together_77 : decode cX9_together 77 = .ok (.iinc 5 1, 3) := by decide +kernel
theorem dX9_together_80 : decode cX9_together 80 = .ok (.goto (-36), 3) := by decide +kernel
theorem dX9_together_83 : decode cX9_together 83 = .ok (.iload 4, 2) := by decide +kernel
theorem dX9_together_85 : decode cX9_together 85 = .ok (.ireturn, 1) := by decide +kernel
theorem dX9_ownTithes_0 : decode cX9_ownTithes 0 = .ok (.iconst 0, 1) := by decide +kernel
theorem dX9_ownTithes_1 : decode cX9_ownTithes 1 = .ok (.istore_n 2, 1) := by decide +kernel
theorem dX9_ownTithes_2 : decode cX9_ownTithes 2 = .ok (.iconst 0, 1) := by decide +kernel
theorem dX9_ownTithes_3 : decode cX9_ownTithes 3 = .ok (.istore_n 3, 1) := by decide +kernel
theorem dX9_ownTithes_4 : decode cX9_ownTithes 4 = .ok (.iload_n 3, 1) := by decide +kernel
theorem dX9_ownTithes_5 : decode cX9_ownTithes 5 = .ok (.aload_n 0, 1) := by decide +kernel
theorem dX9_ownTithes_6 : decode cX9_ownTithes 6 = .ok (.invokevirtual 85, 3) := by decide +kernel
theorem dX9_ownTithes_9 : decode cX9_ownTithes 9 = .ok (.if_icmp .ge 30, 3) := by decide +kernel
theorem dX9_ownTithes_12 : decode cX9_ownTithes 12 = .ok (.iload_n 2, 1) := by decide +kernel
theorem dX9_ownTithes_13 : decode cX9_ownTithes 13 = .ok (.aload_n 0, 1) := by decide +kernel
theorem dX9_ownTithes_14 : decode cX9_ownTithes 14 = .ok (.iload_n 3, 1) := by decide +kernel
theorem dX9_ownTithes_15 : decode cX9_ownTithes 15 = .ok (.invokevirtual 201, 3) := by decide +kernel
theorem dX9_ownTithes_18 : decode cX9_ownTithes 18 = .ok (.iload_n 1, 1) := by decide +kernel
theorem dX9_ownTithes_19 : decode cX9_ownTithes 19 = .ok (.if_icmp .ne 11, 3) := by decide +kernel
theorem dX9_ownTithes_22 : decode cX9_ownTithes 22 = .ok (.aload_n 0, 1) := by decide +kernel
theorem dX9_ownTithes_23 : decode cX9_ownTithes 23 = .ok (.iload_n 3, 1) := by decide +kernel
theorem dX9_ownTithes_24 : decode cX9_ownTithes 24 = .ok (.invokevirtual 136, 3) := by decide +kernel
theorem dX9_ownTithes_27 : decode cX9_ownTithes 27 = .ok (.goto 4, 3) := by decide +kernel
theorem dX9_ownTithes_30 : decode cX9_ownTithes 30 = .ok (.iconst 0, 1) := by decide +kernel
theorem dX9_ownTithes_31 : decode cX9_ownTithes 31 = .ok (.iadd, 1) := by decide +kernel
theorem dX9_ownTithes_32 : decode cX9_ownTithes 32 = .ok (.istore_n 2, 1) := by decide +kernel
theorem dX9_ownTithes_33 : decode cX9_ownTithes 33 = .ok (.iinc 3 1, 3) := by decide +kernel
theorem dX9_ownTithes_36 : decode cX9_ownTithes 36 = .ok (.goto (-32), 3) := by decide +kernel
theorem dX9_ownTithes_39 : decode cX9_ownTithes 39 = .ok (.iload_n 2, 1) := by decide +kernel
theorem dX9_ownTithes_40 : decode cX9_ownTithes 40 = .ok (.ireturn, 1) := by decide +kernel
theorem dX9_isPact_0 : decode cX9_isPact 0 = .ok (.iconst 0, 1) := by decide +kernel
theorem dX9_isPact_1 : decode cX9_isPact 1 = .ok (.istore_n 3, 1) := by decide +kernel
theorem dX9_isPact_2 : decode cX9_isPact 2 = .ok (.iconst 0, 1) := by decide +kernel
theorem dX9_isPact_3 : decode cX9_isPact 3 = .ok (.istore 4, 2) := by decide +kernel
theorem dX9_isPact_5 : decode cX9_isPact 5 = .ok (.iload 4, 2) := by decide +kernel
theorem dX9_isPact_7 : decode cX9_isPact 7 = .ok (.aload_n 0, 1) := by decide +kernel
theorem dX9_isPact_8 : decode cX9_isPact 8 = .ok (.invokevirtual 85, 3) := by decide +kernel
theorem dX9_isPact_11 : decode cX9_isPact 11 = .ok (.if_icmp .ge 33, 3) := by decide +kernel
theorem dX9_isPact_14 : decode cX9_isPact 14 = .ok (.iload_n 3, 1) := by decide +kernel
theorem dX9_isPact_15 : decode cX9_isPact 15 = .ok (.aload_n 0, 1) := by decide +kernel
theorem dX9_isPact_16 : decode cX9_isPact 16 = .ok (.iload_n 1, 1) := by decide +kernel
theorem dX9_isPact_17 : decode cX9_isPact 17 = .ok (.iload_n 2, 1) := by decide +kernel
theorem dX9_isPact_18 : decode cX9_isPact 18 = .ok (.iload 4, 2) := by decide +kernel
theorem dX9_isPact_20 : decode cX9_isPact 20 = .ok (.invokevirtual 222, 3) := by decide +kernel
theorem dX9_isPact_23 : decode cX9_isPact 23 = .ok (.ifCond .eq 12, 3) := by decide +kernel
theorem dX9_isPact_26 : decode cX9_isPact 26 = .ok (.aload_n 0, 1) := by decide +kernel
theorem dX9_isPact_27 : decode cX9_isPact 27 = .ok (.iload 4, 2) := by decide +kernel
theorem dX9_isPact_29 : decode cX9_isPact 29 = .ok (.invokevirtual 136, 3) := by decide +kernel
theorem dX9_isPact_32 : decode cX9_isPact 32 = .ok (.goto 4, 3) := by decide +kernel
theorem dX9_isPact_35 : decode cX9_isPact 35 = .ok (.iconst 0, 1) := by decide +kernel
theorem dX9_isPact_36 : decode cX9_isPact 36 = .ok (.iadd, 1) := by decide +kernel
theorem dX9_isPact_37 : decode cX9_isPact 37 = .ok (.istore_n 3, 1) := by decide +kernel
theorem dX9_isPact_38 : decode cX9_isPact 38 = .ok (.iinc 4 1, 3) := by decide +kernel
theorem dX9_isPact_41 : decode cX9_isPact 41 = .ok (.goto (-36), 3) := by decide +kernel
theorem dX9_isPact_44 : decode cX9_isPact 44 = .ok (.iload_n 3, 1) := by decide +kernel
theorem dX9_isPact_45 : decode cX9_isPact 45 = .ok (.iconst 2, 1) := by decide +kernel
theorem dX9_isPact_46 : decode cX9_isPact 46 = .ok (.aload_n 0, 1) := by decide +kernel
theorem dX9_isPact_47 : decode cX9_isPact 47 = .ok (.iload_n 1, 1) := by decide +kernel
theorem dX9_isPact_48 : decode cX9_isPact 48 = .ok (.invokevirtual 225, 3) := by decide +kernel
theorem dX9_isPact_51 : decode cX9_isPact 51 = .ok (.imul, 1) := by decide +kernel
theorem dX9_isPact_52 : decode cX9_isPact 52 = .ok (.if_icmp .le 18, 3) := by decide +kernel
theorem dX9_isPact_55 : decode cX9_isPact 55 = .ok (.iload_n 3, 1) := by decide +kernel
theorem dX9_isPact_56 : decode cX9_isPact 56 = .ok (.iconst 2, 1) := by decide +kernel
theorem dX9_isPact_57 : decode cX9_isPact 57 = .ok (.aload_n 0, 1) := by decide +kernel
theorem dX9_isPact_58 : decode cX9_isPact 58 = .ok (.iload_n 2, 1) := by decide +kernel
theorem dX9_isPact_59 : decode cX9_isPact 59 = .ok (.invokevirtual 225, 3) := by decide +kernel
theorem dX9_isPact_62 : decode cX9_isPact 62 = .ok (.imul, 1) := by decide +kernel
theorem dX9_isPact_63 : decode cX9_isPact 63 = .ok (.if_icmp .le 7, 3) := by decide +kernel
theorem dX9_isPact_66 : decode cX9_isPact 66 = .ok (.iconst 1, 1) := by decide +kernel
theorem dX9_isPact_67 : decode cX9_isPact 67 = .ok (.goto 4, 3) := by decide +kernel
theorem dX9_isPact_70 : decode cX9_isPact 70 = .ok (.iconst 0, 1) := by decide +kernel
theorem dX9_isPact_71 : decode cX9_isPact 71 = .ok (.ireturn, 1) := by decide +kernel
theorem dX9_pacts_0 : decode cX9_pacts 0 = .ok (.iload_n 1, 1) := by decide +kernel
theorem dX9_pacts_1 : decode cX9_pacts 1 = .ok (.invokestatic 169, 3) := by decide +kernel
theorem dX9_pacts_4 : decode cX9_pacts 4 = .ok (.ifCond .ne 6, 3) := by decide +kernel
theorem dX9_pacts_7 : decode cX9_pacts 7 = .ok (.bipush (-2), 2) := by decide +kernel
theorem dX9_pacts_9 : decode cX9_pacts 9 = .ok (.ireturn, 1) := by decide +kernel
theorem dX9_pacts_10 : decode cX9_pacts 10 = .ok (.iload_n 2, 1) := by decide +kernel
theorem dX9_pacts_11 : decode cX9_pacts 11 = .ok (.iconst (-1), 1) := by decide +kernel
theorem dX9_pacts_12 : decode cX9_pacts 12 = .ok (.if_icmp .ge 5, 3) := by decide +kernel
theorem dX9_pacts_15 : decode cX9_pacts 15 = .ok (.iconst (-1), 1) := by decide +kernel
theorem dX9_pacts_16 : decode cX9_pacts 16 = .ok (.ireturn, 1) := by decide +kernel
theorem dX9_pacts_17 : decode cX9_pacts 17 = .ok (.aload_n 0, 1) := by decide +kernel
theorem dX9_pacts_18 : decode cX9_pacts 18 = .ok (.iload_n 1, 1) := by decide +kernel
theorem dX9_pacts_19 : decode cX9_pacts 19 = .ok (.invokevirtual 197, 3) := by decide +kernel
theorem dX9_pacts_22 : decode cX9_pacts 22 = .ok (.iconst 0, 1) := by decide +kernel
theorem dX9_pacts_23 : decode cX9_pacts 23 = .ok (.istore_n 3, 1) := by decide +kernel
theorem dX9_pacts_24 : decode cX9_pacts 24 = .ok (.iconst 0, 1) := by decide +kernel
theorem dX9_pacts_25 : decode cX9_pacts 25 = .ok (.istore 4, 2) := by decide +kernel
theorem dX9_pacts_27 : decode cX9_pacts 27 = .ok (.iload 4, 2) := by decide +kernel
theorem dX9_pacts_29 : decode cX9_pacts 29 = .ok (.aload_n 0, 1) := by decide +kernel
theorem dX9_pacts_30 : decode cX9_pacts 30 = .ok (.getfield 116, 3) := by decide +kernel
theorem dX9_pacts_33 : decode cX9_pacts 33 = .ok (.if_icmp .ge 58, 3) := by decide +kernel
theorem dX9_pacts_36 : decode cX9_pacts 36 = .ok (.iload 4, 2) := by decide +kernel
theorem dX9_pacts_38 : decode cX9_pacts 38 = .ok (.iconst 1, 1) := by decide +kernel
theorem dX9_pacts_39 : decode cX9_pacts 39 = .ok (.iadd, 1) := by decide +kernel
theorem dX9_pacts_40 : decode cX9_pacts 40 = .ok (.istore 5, 2) := by decide +kernel
theorem dX9_pacts_42 : decode cX9_pacts 42 = .ok (.iload 5, 2) := by decide +kernel
theorem dX9_pacts_44 : decode cX9_pacts 44 = .ok (.aload_n 0, 1) := by decide +kernel
theorem dX9_pacts_45 : decode cX9_pacts 45 = .ok (.getfield 116, 3) := by decide +kernel
theorem dX9_pacts_48 : decode cX9_pacts 48 = .ok (.if_icmp .ge 37, 3) := by decide +kernel
theorem dX9_pacts_51 : decode cX9_pacts 51 = .ok (.aload_n 0, 1) := by decide +kernel
theorem dX9_pacts_52 : decode cX9_pacts 52 = .ok (.iload 4, 2) := by decide +kernel
theorem dX9_pacts_54 : decode cX9_pacts 54 = .ok (.iload 5, 2) := by decide +kernel
theorem dX9_pacts_56 : decode cX9_pacts 56 = .ok (.invokevirtual 228, 3) := by decide +kernel
theorem dX9_pacts_59 : decode cX9_pacts 59 = .ok (.ifCond .eq 20, 3) := by decide +kernel
theorem dX9_pacts_62 : decode cX9_pacts 62 = .ok (.iload_n 3, 1) := by decide +kernel
theorem dX9_pacts_63 : decode cX9_pacts 63 = .ok (.iload_n 2, 1) := by decide +kernel
theorem dX9_pacts_64 : decode cX9_pacts 64 = .ok (.if_icmp .ne 12, 3) := by decide +kernel
theorem dX9_pacts_67 : decode cX9_pacts 67 = .ok (.bipush 10, 2) := by decide +kernel
theorem dX9_pacts_69 : decode cX9_pacts 69 = .ok (.iload 4, 2) := by decide +kernel
theorem dX9_pacts_71 : decode cX9_pacts 71 = .ok (.imul, 1) := by decide +kernel
theorem dX9_pacts_72 : decode cX9_pacts 72 = .ok (.iload 5, 2) := by decide +kernel
theorem dX9_pacts_74 : decode cX9_pacts 74 = .ok (.iadd, 1) := by decide +kernel
theorem dX9_pacts_75 : decode cX9_pacts 75 = .ok (.ireturn, 1) := by decide +kernel
theorem dX9_pacts_76 : decode cX9_pacts 76 = .ok (.iinc 3 1, 3) := by decide +kernel
theorem dX9_pacts_79 : decode cX9_pacts 79 = .ok (.iinc 5 1, 3) := by decide +kernel
theorem dX9_pacts_82 : decode cX9_pacts 82 = .ok (.goto (-40), 3) := by decide +kernel
theorem dX9_pacts_85 : decode cX9_pacts 85 = .ok (.iinc 4 1, 3) := by decide +kernel
theorem dX9_pacts_88 : decode cX9_pacts 88 = .ok (.goto (-61), 3) := by decide +kernel
theorem dX9_pacts_91 : decode cX9_pacts 91 = .ok (.iload_n 2, 1) := by decide +kernel
theorem dX9_pacts_92 : decode cX9_pacts 92 = .ok (.iconst (-1), 1) := by decide +kernel
theorem dX9_pacts_93 : decode cX9_pacts 93 = .ok (.if_icmp .ne 7, 3) := by decide +kernel
theorem dX9_pacts_96 : decode cX9_pacts 96 = .ok (.iload_n 3, 1) := by decide +kernel
theorem dX9_pacts_97 : decode cX9_pacts 97 = .ok (.goto 5, 3) := by decide +kernel
theorem dX9_pacts_100 : decode cX9_pacts 100 = .ok (.bipush (-9), 2) := by decide +kernel
theorem dX9_pacts_102 : decode cX9_pacts 102 = .ok (.ireturn, 1) := by decide +kernel
theorem dX9_report_0 : decode cX9_report 0 = .ok (.aload_n 0, 1) := by decide +kernel
theorem dX9_report_1 : decode cX9_report 1 = .ok (.iload_n 1, 1) := by decide +kernel
theorem dX9_report_2 : decode cX9_report 2 = .ok (.invokevirtual 133, 3) := by decide +kernel
theorem dX9_report_5 : decode cX9_report 5 = .ok (.ifCond .eq 26, 3) := by decide +kernel
theorem dX9_report_8 : decode cX9_report 8 = .ok (.aload_n 0, 1) := by decide +kernel
theorem dX9_report_9 : decode cX9_report 9 = .ok (.iload_n 3, 1) := by decide +kernel
theorem dX9_report_10 : decode cX9_report 10 = .ok (.invokevirtual 145, 3) := by decide +kernel
theorem dX9_report_13 : decode cX9_report 13 = .ok (.ifCond .eq 18, 3) := by decide +kernel
theorem dX9_report_16 : decode cX9_report 16 = .ok (.aload_n 0, 1) := by decide +kernel
theorem dX9_report_17 : decode cX9_report 17 = .ok (.iload 4, 2) := by decide +kernel
theorem dX9_report_19 : decode cX9_report 19 = .ok (.invokevirtual 145, 3) := by decide +kernel
theorem dX9_report_22 : decode cX9_report 22 = .ok (.ifCond .eq 9, 3) := by decide +kernel
theorem dX9_report_25 : decode cX9_report 25 = .ok (.iload_n 3, 1) := by decide +kernel
theorem dX9_report_26 : decode cX9_report 26 = .ok (.iload 4, 2) := by decide +kernel
theorem dX9_report_28 : decode cX9_report 28 = .ok (.if_icmp .ne 5, 3) := by decide +kernel
theorem dX9_report_31 : decode cX9_report 31 = .ok (.iconst (-1), 1) := by decide +kernel
theorem dX9_report_32 : decode cX9_report 32 = .ok (.ireturn, 1) := by decide +kernel
theorem dX9_report_33 : decode cX9_report 33 = .ok (.iload_n 2, 1) := by decide +kernel
theorem dX9_report_34 : decode cX9_report 34 = .ok (.invokestatic 169, 3) := by decide +kernel
theorem dX9_report_37 : decode cX9_report 37 = .ok (.ifCond .ne 6, 3) := by decide +kernel
theorem dX9_report_40 : decode cX9_report 40 = .ok (.bipush (-2), 2) := by decide +kernel
theorem dX9_report_42 : decode cX9_report 42 = .ok (.ireturn, 1) := by decide +kernel
theorem dX9_report_43 : decode cX9_report 43 = .ok (.aload_n 0, 1) := by decide +kernel
theorem dX9_report_44 : decode cX9_report 44 = .ok (.getfield 119, 3) := by decide +kernel
theorem dX9_report_47 : decode cX9_report 47 = .ok (.bipush 10, 2) := by decide +kernel
theorem dX9_report_49 : decode cX9_report 49 = .ok (.if_icmp .ne 6, 3) := by decide +kernel
theorem dX9_report_52 : decode cX9_report 52 = .ok (.bipush (-4), 2) := by decide +kernel
theorem dX9_report_54 : decode cX9_report 54 = .ok (.ireturn, 1) := by decide +kernel
theorem dX9_report_55 : decode cX9_report 55 = .ok (.aload_n 0, 1) := by decide +kernel
theorem dX9_report_56 : decode cX9_report 56 = .ok (.getfield 45, 3) := by decide +kernel
theorem dX9_report_59 : decode cX9_report 59 = .ok (.aload_n 0, 1) := by decide +kernel
theorem dX9_report_60 : decode cX9_report 60 = .ok (.getfield 119, 3) := by decide +kernel
theorem dX9_report_63 : decode cX9_report 63 = .ok (.iload_n 1, 1) := by decide +kernel
theorem dX9_report_64 : decode cX9_report 64 = .ok (.iastore, 1) := by decide +kernel
theorem dX9_report_65 : decode cX9_report 65 = .ok (.aload_n 0, 1) := by decide +kernel
theorem dX9_report_66 : decode cX9_report 66 = .ok (.getfield 48, 3) := by decide +kernel
theorem dX9_report_69 : decode cX9_report 69 = .ok (.aload_n 0, 1) := by decide +kernel
theorem dX9_report_70 : decode cX9_report 70 = .ok (.getfield 119, 3) := by decide +kernel
theorem dX9_report_73 : decode cX9_report 73 = .ok (.iload_n 2, 1) := by decide +kernel
theorem dX9_report_74 : decode cX9_report 74 = .ok (.iastore, 1) := by decide +kernel
theorem dX9_report_75 : decode cX9_report 75 = .ok (.aload_n 0, 1) := by decide +kernel
theorem dX9_report_76 : decode cX9_report 76 = .ok (.getfield 51, 3) := by decide +kernel
theorem dX9_report_79 : decode cX9_report 79 = .ok (.aload_n 0, 1) := by decide +kernel
theorem dX9_report_80 : decode cX9_report 80 = .ok (.getfield 119, 3) := by decide +kernel
theorem dX9_report_83 : decode cX9_report 83 = .ok (.iload_n 3, 1) := by decide +kernel
theorem dX9_report_84 : decode cX9_report 84 = .ok (.iastore, 1) := by decide +kernel
theorem dX9_report_85 : decode cX9_report 85 = .ok (.aload_n 0, 1) := by decide +kernel
theorem dX9_report_86 : decode cX9_report 86 = .ok (.getfield 54, 3) := by decide +kernel
theorem dX9_report_89 : decode cX9_report 89 = .ok (.aload_n 0, 1) := by decide +kernel
theorem dX9_report_90 : decode cX9_report 90 = .ok (.getfield 119, 3) := by decide +kernel
theorem dX9_report_93 : decode cX9_report 93 = .ok (.iload 4, 2) := by decide +kernel
theorem dX9_report_95 : decode cX9_report 95 = .ok (.iastore, 1) := by decide +kernel
theorem dX9_report_96 : decode cX9_report 96 = .ok (.aload_n 0, 1) := by decide +kernel
theorem dX9_report_97 : decode cX9_report 97 = .ok (.dup, 1) := by decide +kernel
theorem dX9_report_98 : decode cX9_report 98 = .ok (.getfield 119, 3) := by decide +kernel
theorem dX9_report_101 : decode cX9_report 101 = .ok (.iconst 1, 1) := by decide +kernel
theorem dX9_report_102 : decode cX9_report 102 = .ok (.iadd, 1) := by decide +kernel
theorem dX9_report_103 : decode cX9_report 103 = .ok (.putfield 119, 3) := by decide +kernel
theorem dX9_report_106 : decode cX9_report 106 = .ok (.aload_n 0, 1) := by decide +kernel
theorem dX9_report_107 : decode cX9_report 107 = .ok (.getfield 119, 3) := by decide +kernel
theorem dX9_report_110 : decode cX9_report 110 = .ok (.iconst 1, 1) := by decide +kernel
theorem dX9_report_111 : decode cX9_report 111 = .ok (.isub, 1) := by decide +kernel
theorem dX9_report_112 : decode cX9_report 112 = .ok (.ireturn, 1) := by decide +kernel
theorem dX9_back_0 : decode cX9_back 0 = .ok (.iload_n 1, 1) := by decide +kernel
theorem dX9_back_1 : decode cX9_back 1 = .ok (.iconst 0, 1) := by decide +kernel
theorem dX9_back_2 : decode cX9_back 2 = .ok (.aload_n 0, 1) := by decide +kernel
theorem dX9_back_3 : decode cX9_back 3 = .ok (.getfield 119, 3) := by decide +kernel
theorem dX9_back_6 : decode cX9_back 6 = .ok (.invokestatic 75, 3) := by decide +kernel
theorem dX9_back_9 : decode cX9_back 9 = .ok (.ifCond .ne 6, 3) := by decide +kernel
theorem dX9_back_12 : decode cX9_back 12 = .ok (.bipush (-2), 2) := by decide +kernel
theorem dX9_back_14 : decode cX9_back 14 = .ok (.ireturn, 1) := by decide +kernel
theorem dX9_back_15 : decode cX9_back 15 = .ok (.aload_n 0, 1) := by decide +kernel
theorem dX9_back_16 : decode cX9_back 16 = .ok (.dup, 1) := by decide +kernel
theorem dX9_back_17 : decode cX9_back 17 = .ok (.getfield 119, 3) := by decide +kernel
theorem dX9_back_20 : decode cX9_back 20 = .ok (.iload_n 1, 1) := by decide +kernel
theorem dX9_back_21 : decode cX9_back 21 = .ok (.isub, 1) := by decide +kernel
theorem dX9_back_22 : decode cX9_back 22 = .ok (.putfield 119, 3) := by decide +kernel
theorem dX9_back_25 : decode cX9_back 25 = .ok (.aload_n 0, 1) := by decide +kernel
theorem dX9_back_26 : decode cX9_back 26 = .ok (.getfield 119, 3) := by decide +kernel
theorem dX9_back_29 : decode cX9_back 29 = .ok (.ireturn, 1) := by decide +kernel
theorem dX9_isSo_0 : decode cX9_isSo 0 = .ok (.aload_n 0, 1) := by decide +kernel
theorem dX9_isSo_1 : decode cX9_isSo 1 = .ok (.aload_n 0, 1) := by decide +kernel
theorem dX9_isSo_2 : decode cX9_isSo 2 = .ok (.getfield 51, 3) := by decide +kernel
theorem dX9_isSo_5 : decode cX9_isSo 5 = .ok (.iload_n 1, 1) := by decide +kernel
theorem dX9_isSo_6 : decode cX9_isSo 6 = .ok (.iaload, 1) := by decide +kernel
theorem dX9_isSo_7 : decode cX9_isSo 7 = .ok (.aload_n 0, 1) := by decide +kernel
theorem dX9_isSo_8 : decode cX9_isSo 8 = .ok (.getfield 45, 3) := by decide +kernel
theorem dX9_isSo_11 : decode cX9_isSo 11 = .ok (.iload_n 1, 1) := by decide +kernel
theorem dX9_isSo_12 : decode cX9_isSo 12 = .ok (.iaload, 1) := by decide +kernel
theorem dX9_isSo_13 : decode cX9_isSo 13 = .ok (.aload_n 0, 1) := by decide +kernel
theorem dX9_isSo_14 : decode cX9_isSo 14 = .ok (.getfield 48, 3) := by decide +kernel
theorem dX9_isSo_17 : decode cX9_isSo 17 = .ok (.iload_n 1, 1) := by decide +kernel
theorem dX9_isSo_18 : decode cX9_isSo 18 = .ok (.iaload, 1) := by decide +kernel
theorem dX9_isSo_19 : decode cX9_isSo 19 = .ok (.invokevirtual 172, 3) := by decide +kernel
theorem dX9_isSo_22 : decode cX9_isSo 22 = .ok (.aload_n 0, 1) := by decide +kernel
theorem dX9_isSo_23 : decode cX9_isSo 23 = .ok (.getfield 35, 3) := by decide +kernel
theorem dX9_isSo_26 : decode cX9_isSo 26 = .ok (.aload_n 0, 1) := by decide +kernel
theorem dX9_isSo_27 : decode cX9_isSo 27 = .ok (.getfield 51, 3) := by decide +kernel
theorem dX9_isSo_30 : decode cX9_isSo 30 = .ok (.iload_n 1, 1) := by decide +kernel
theorem dX9_isSo_31 : decode cX9_isSo 31 = .ok (.iaload, 1) := by decide +kernel
theorem dX9_isSo_32 : decode cX9_isSo 32 = .ok (.iaload, 1) := by decide +kernel
theorem dX9_isSo_33 : decode cX9_isSo 33 = .ok (.i2l, 1) := by decide +kernel
theorem dX9_isSo_34 : decode cX9_isSo 34 = .ok (.aload_n 0, 1) := by decide +kernel
theorem dX9_isSo_35 : decode cX9_isSo 35 = .ok (.getfield 150, 3) := by decide +kernel
theorem dX9_isSo_38 : decode cX9_isSo 38 = .ok (.lmul, 1) := by decide +kernel
theorem dX9_isSo_39 : decode cX9_isSo 39 = .ok (.lstore_n 2, 1) := by decide +kernel
theorem dX9_isSo_40 : decode cX9_isSo 40 = .ok (.aload_n 0, 1) := by decide +kernel
theorem dX9_isSo_41 : decode cX9_isSo 41 = .ok (.getfield 154, 3) := by decide +kernel
theorem dX9_isSo_44 : decode cX9_isSo 44 = .ok (.lstore 4, 2) := by decide +kernel
theorem dX9_isSo_46 : decode cX9_isSo 46 = .ok (.aload_n 0, 1) := by decide +kernel
theorem dX9_isSo_47 : decode cX9_isSo 47 = .ok (.aload_n 0, 1) := by decide +kernel
theorem dX9_isSo_48 : decode cX9_isSo 48 = .ok (.getfield 54, 3) := by decide +kernel
theorem dX9_isSo_51 : decode cX9_isSo 51 = .ok (.iload_n 1, 1) := by decide +kernel
theorem dX9_isSo_52 : decode cX9_isSo 52 = .ok (.iaload, 1) := by decide +kernel
theorem dX9_isSo_53 : decode cX9_isSo 53 = .ok (.aload_n 0, 1) := by decide +kernel
theorem dX9_isSo_54 : decode cX9_isSo 54 = .ok (.getfield 45, 3) := by decide +kernel
theorem dX9_isSo_57 : decode cX9_isSo 57 = .ok (.iload_n 1, 1) := by decide +kernel
theorem dX9_isSo_58 : decode cX9_isSo 58 = .ok (.iaload, 1) := by decide +kernel
theorem dX9_isSo_59 : decode cX9_isSo 59 = .ok (.aload_n 0, 1) := by decide +kernel
theorem dX9_isSo_60 : decode cX9_isSo 60 = .ok (.getfield 48, 3) := by decide +kernel
theorem dX9_isSo_63 : decode cX9_isSo 63 = .ok (.iload_n 1, 1) := by decide +kernel
theorem dX9_isSo_64 : decode cX9_isSo 64 = .ok (.iaload, 1) := by decide +kernel
theorem dX9_isSo_65 : decode cX9_isSo 65 = .ok (.invokevirtual 172, 3) := by decide +kernel
theorem dX9_isSo_68 : decode cX9_isSo 68 = .ok (.lload_n 2, 1) := by decide +kernel
theorem dX9_isSo_69 : decode cX9_isSo 69 = .ok (.aload_n 0, 1) := by decide +kernel
theorem dX9_isSo_70 : decode cX9_isSo 70 = .ok (.getfield 154, 3) := by decide +kernel
theorem dX9_isSo_73 : decode cX9_isSo 73 = .ok (.lmul, 1) := by decide +kernel
theorem dX9_isSo_74 : decode cX9_isSo 74 = .ok (.aload_n 0, 1) := by decide +kernel
theorem dX9_isSo_75 : decode cX9_isSo 75 = .ok (.getfield 35, 3) := by decide +kernel
theorem dX9_isSo_78 : decode cX9_isSo 78 = .ok (.aload_n 0, 1) := by decide +kernel
theorem dX9_isSo_79 : decode cX9_isSo 79 = .ok (.getfield 54, 3) := by decide +kernel
theorem dX9_isSo_82 : decode cX9_isSo 82 = .ok (.iload_n 1, 1) := by decide +kernel
theorem dX9_isSo_83 : decode cX9_isSo 83 = .ok (.iaload, 1) := by decide +kernel
theorem dX9_isSo_84 : decode cX9_isSo 84 = .ok (.iaload, 1) := by decide +kernel
theorem dX9_isSo_85 : decode cX9_isSo 85 = .ok (.i2l, 1) := by decide +kernel
theorem dX9_isSo_86 : decode cX9_isSo 86 = .ok (.aload_n 0, 1) := by decide +kernel
theorem dX9_isSo_87 : decode cX9_isSo 87 = .ok (.getfield 150, 3) := by decide +kernel
theorem dX9_isSo_90 : decode cX9_isSo 90 = .ok (.lmul, 1) := by decide +kernel
theorem dX9_isSo_91 : decode cX9_isSo 91 = .ok (.lload 4, 2) := by decide +kernel
theorem dX9_isSo_93 : decode cX9_isSo 93 = .ok (.lmul, 1) := by decide +kernel
theorem dX9_isSo_94 : decode cX9_isSo 94 = .ok (.lcmp, 1) := by decide +kernel
theorem dX9_isSo_95 : decode cX9_isSo 95 = .ok (.ifCond .le 7, 3) := by decide +kernel
theorem dX9_isSo_98 : decode cX9_isSo 98 = .ok (.iconst 1, 1) := by decide +kernel
theorem dX9_isSo_99 : decode cX9_isSo 99 = .ok (.goto 4, 3) := by decide +kernel
theorem dX9_isSo_102 : decode cX9_isSo 102 = .ok (.iconst 0, 1) := by decide +kernel
theorem dX9_isSo_103 : decode cX9_isSo 103 = .ok (.ireturn, 1) := by decide +kernel
theorem dX9_untrue_0 : decode cX9_untrue 0 = .ok (.iconst 0, 1) := by decide +kernel
theorem dX9_untrue_1 : decode cX9_untrue 1 = .ok (.istore_n 1, 1) := by decide +kernel
theorem dX9_untrue_2 : decode cX9_untrue 2 = .ok (.iconst 0, 1) := by decide +kernel
theorem dX9_untrue_3 : decode cX9_untrue 3 = .ok (.istore_n 2, 1) := by decide +kernel
theorem dX9_untrue_4 : decode cX9_untrue 4 = .ok (.iload_n 2, 1) := by decide +kernel
theorem dX9_untrue_5 : decode cX9_untrue 5 = .ok (.aload_n 0, 1) := by decide +kernel
theorem dX9_untrue_6 : decode cX9_untrue 6 = .ok (.getfield 119, 3) := by decide +kernel
theorem dX9_untrue_9 : decode cX9_untrue 9 = .ok (.if_icmp .ge 27, 3) := by decide +kernel
theorem dX9_untrue_12 : decode cX9_untrue 12 = .ok (.iload_n 1, 1) := by decide +kernel
theorem dX9_untrue_13 : decode cX9_untrue 13 = .ok (.aload_n 0, 1) := by decide +kernel
theorem dX9_untrue_14 : decode cX9_untrue 14 = .ok (.iload_n 2, 1) := by decide +kernel
theorem dX9_untrue_15 : decode cX9_untrue 15 = .ok (.invokevirtual 231, 3) := by decide +kernel
theorem dX9_untrue_18 : decode cX9_untrue 18 = .ok (.ifCond .eq 7, 3) := by decide +kernel
theorem dX9_untrue_21 : decode cX9_untrue 21 = .ok (.iconst 0, 1) := by decide +kernel
theorem dX9_untrue_22 : decode cX9_untrue 22 = .ok (.goto 6, 3) := by decide +kernel
theorem dX9_untrue_25 : decode cX9_untrue 25 = .ok (.iconst 1, 1) := by decide +kernel
theorem dX9_untrue_26 : decode cX9_untrue 26 = .ok (.iload_n 2, 1) := by decide +kernel
theorem dX9_untrue_27 : decode cX9_untrue 27 = .ok (.ishl, 1) := by decide +kernel
theorem dX9_untrue_28 : decode cX9_untrue 28 = .ok (.ior, 1) := by decide +kernel
theorem dX9_untrue_29 : decode cX9_untrue 29 = .ok (.istore_n 1, 1) := by decide +kernel
theorem dX9_untrue_30 : decode cX9_untrue 30 = .ok (.iinc 2 1, 3) := by decide +kernel
theorem dX9_untrue_33 : decode cX9_untrue 33 = .ok (.goto (-29), 3) := by decide +kernel
theorem dX9_untrue_36 : decode cX9_untrue 36 = .ok (.iload_n 1, 1) := by decide +kernel
theorem dX9_untrue_37 : decode cX9_untrue 37 = .ok (.ireturn, 1) := by decide +kernel
theorem dX9_areSoOf_0 : decode cX9_areSoOf 0 = .ok (.iconst 0, 1) := by decide +kernel
theorem dX9_areSoOf_1 : decode cX9_areSoOf 1 = .ok (.istore_n 2, 1) := by decide +kernel
theorem dX9_areSoOf_2 : decode cX9_areSoOf 2 = .ok (.iload_n 2, 1) := by decide +kernel
theorem dX9_areSoOf_3 : decode cX9_areSoOf 3 = .ok (.aload_n 0, 1) := by decide +kernel
theorem dX9_areSoOf_4 : decode cX9_areSoOf 4 = .ok (.getfield 119, 3) := by decide +kernel
theorem dX9_areSoOf_7 : decode cX9_areSoOf 7 = .ok (.if_icmp .ge 39, 3) := by decide +kernel
theorem dX9_areSoOf_10 : decode cX9_areSoOf 10 = .ok (.aload_n 0, 1) := by decide +kernel
theorem dX9_areSoOf_11 : decode cX9_areSoOf 11 = .ok (.getfield 51, 3) := by decide +kernel
theorem dX9_areSoOf_14 : decode cX9_areSoOf 14 = .ok (.iload_n 2, 1) := by decide +kernel
theorem dX9_areSoOf_15 : decode cX9_areSoOf 15 = .ok (.iaload, 1) := by decide +kernel
theorem dX9_areSoOf_16 : decode cX9_areSoOf 16 = .ok (.iload_n 1, 1) := by decide +kernel
theorem dX9_areSoOf_17 : decode cX9_areSoOf 17 = .ok (.if_icmp .eq 13, 3) := by decide +kernel
theorem dX9_areSoOf_20 : decode cX9_areSoOf 20 = .ok (.aload_n 0, 1) := by decide +kernel
theorem dX9_areSoOf_21 : decode cX9_areSoOf 21 = .ok (.getfield 54, 3) := by decide +kernel
theorem dX9_areSoOf_24 : decode cX9_areSoOf 24 = .ok (.iload_n 2, 1) := by decide +kernel
theorem dX9_areSoOf_25 : decode cX9_areSoOf 25 = .ok (.iaload, 1) := by decide +kernel
theorem dX9_areSoOf_26 : decode cX9_areSoOf 26 = .ok (.iload_n 1, 1) := by decide +kernel
theorem dX9_areSoOf_27 : decode cX9_areSoOf 27 = .ok (.if_icmp .ne 13, 3) := by decide +kernel
theorem dX9_areSoOf_30 : decode cX9_areSoOf 30 = .ok (.aload_n 0, 1) := by decide +kernel
theorem dX9_areSoOf_31 : decode cX9_areSoOf 31 = .ok (.iload_n 2, 1) := by decide +kernel
theorem dX9_areSoOf_32 : decode cX9_areSoOf 32 = .ok (.invokevirtual 231, 3) := by decide +kernel
theorem dX9_areSoOf_35 : decode cX9_areSoOf 35 = .ok (.ifCond .ne 5, 3) := by decide +kernel
theorem dX9_areSoOf_38 : decode cX9_areSoOf 38 = .ok (.iconst 0, 1) := by decide +kernel
theorem dX9_areSoOf_39 : decode cX9_areSoOf 39 = .ok (.ireturn, 1) := by decide +kernel
theorem dX9_areSoOf_40 : decode cX9_areSoOf 40 = .ok (.iinc 2 1, 3) := by decide +kernel
theorem dX9_areSoOf_43 : decode cX9_areSoOf 43 = .ok (.goto (-41), 3) := by decide +kernel
theorem dX9_areSoOf_46 : decode cX9_areSoOf 46 = .ok (.iconst 1, 1) := by decide +kernel
theorem dX9_areSoOf_47 : decode cX9_areSoOf 47 = .ok (.ireturn, 1) := by decide +kernel
theorem dX9_leaves_0 : decode cX9_leaves 0 = .ok (.aload_n 0, 1) := by decide +kernel
theorem dX9_leaves_1 : decode cX9_leaves 1 = .ok (.iload_n 1, 1) := by decide +kernel
theorem dX9_leaves_2 : decode cX9_leaves 2 = .ok (.invokevirtual 145, 3) := by decide +kernel
theorem dX9_leaves_5 : decode cX9_leaves 5 = .ok (.ifCond .ne 5, 3) := by decide +kernel
theorem dX9_leaves_8 : decode cX9_leaves 8 = .ok (.iconst (-1), 1) := by decide +kernel
theorem dX9_leaves_9 : decode cX9_leaves 9 = .ok (.ireturn, 1) := by decide +kernel
theorem dX9_leaves_10 : decode cX9_leaves 10 = .ok (.iload_n 2, 1) := by decide +kernel
theorem dX9_leaves_11 : decode cX9_leaves 11 = .ok (.iconst 0, 1) := by decide +kernel
theorem dX9_leaves_12 : decode cX9_leaves 12 = .ok (.iconst 2, 1) := by decide +kernel
theorem dX9_leaves_13 : decode cX9_leaves 13 = .ok (.invokestatic 75, 3) := by decide +kernel
theorem dX9_leaves_16 : decode cX9_leaves 16 = .ok (.ifCond .ne 6, 3) := by decide +kernel
theorem dX9_leaves_19 : decode cX9_leaves 19 = .ok (.bipush (-2), 2) := by decide +kernel
theorem dX9_leaves_21 : decode cX9_leaves 21 = .ok (.ireturn, 1) := by decide +kernel
theorem dX9_leaves_22 : decode cX9_leaves 22 = .ok (.aload_n 0, 1) := by decide +kernel
theorem dX9_leaves_23 : decode cX9_leaves 23 = .ok (.getfield 35, 3) := by decide +kernel
theorem dX9_leaves_26 : decode cX9_leaves 26 = .ok (.iload_n 1, 1) := by decide +kernel
theorem dX9_leaves_27 : decode cX9_leaves 27 = .ok (.iaload, 1) := by decide +kernel
theorem dX9_leaves_28 : decode cX9_leaves 28 = .ok (.istore_n 3, 1) := by decide +kernel
theorem dX9_leaves_29 : decode cX9_leaves 29 = .ok (.iconst 0, 1) := by decide +kernel
theorem dX9_leaves_30 : decode cX9_leaves 30 = .ok (.istore 4, 2) := by decide +kernel
theorem dX9_leaves_32 : decode cX9_leaves 32 = .ok (.bipush (-9), 2) := by decide +kernel
theorem dX9_leaves_34 : decode cX9_leaves 34 = .ok (.istore 5, 2) := by decide +kernel
theorem dX9_leaves_36 : decode cX9_leaves 36 = .ok (.bipush (-9), 2) := by decide +kernel
theorem dX9_leaves_38 : decode cX9_leaves 38 = .ok (.istore 6, 2) := by decide +kernel
theorem dX9_leaves_40 : decode cX9_leaves 40 = .ok (.iconst 1, 1) := by decide +kernel
theorem dX9_leaves_41 : decode cX9_leaves 41 = .ok (.istore 7, 2) := by decide +kernel
theorem dX9_leaves_43 : decode cX9_leaves 43 = .ok (.iload 7, 2) := by decide +kernel
theorem dX9_leaves_45 : decode cX9_leaves 45 = .ok (.bipush 99, 2) := by decide +kernel
theorem dX9_leaves_47 : decode cX9_leaves 47 = .ok (.if_icmp .gt 48, 3) := by decide +kernel
theorem dX9_leaves_50 : decode cX9_leaves 50 = .ok (.aload_n 0, 1) := by decide +kernel
theorem dX9_leaves_51 : decode cX9_leaves 51 = .ok (.getfield 35, 3) := by decide +kernel
theorem dX9_leaves_54 : decode cX9_leaves 54 = .ok (.iload_n 1, 1) := by decide +kernel
theorem dX9_leaves_55 : decode cX9_leaves 55 = .ok (.iload 7, 2) := by decide +kernel
theorem dX9_leaves_57 : decode cX9_leaves 57 = .ok (.iastore, 1) := by decide +kernel
theorem dX9_leaves_58 : decode cX9_leaves 58 = .ok (.aload_n 0, 1) := by decide +kernel
theorem dX9_leaves_59 : decode cX9_leaves 59 = .ok (.iload_n 1, 1) := by decide +kernel
theorem dX9_leaves_60 : decode cX9_leaves 60 = .ok (.invokevirtual 234, 3) := by decide +kernel
theorem dX9_leaves_63 : decode cX9_leaves 63 = .ok (.ifCond .eq 26, 3) := by decide +kernel
theorem dX9_leaves_66 : decode cX9_leaves 66 = .ok (.iinc 4 1, 3) := by decide +kernel
theorem dX9_leaves_69 : decode cX9_leaves 69 = .ok (.iload 5, 2) := by decide +kernel
theorem dX9_leaves_71 : decode cX9_leaves 71 = .ok (.bipush (-9), 2) := by decide +kernel
theorem dX9_leaves_73 : decode cX9_leaves 73 = .ok (.if_icmp .ne 8, 3) := by decide +kernel
theorem dX9_leaves_76 : decode cX9_leaves 76 = .ok (.iload 7, 2) := by decide +kernel
theorem dX9_leaves_78 : decode cX9_leaves 78 = .ok (.goto 5, 3) := by decide +kernel
theorem dX9_leaves_81 : decode cX9_leaves 81 = .ok (.iload 5, 2) := by decide +kernel
theorem dX9_leaves_83 : decode cX9_leaves 83 = .ok (.istore 5, 2) := by decide +kernel
theorem dX9_leaves_85 : decode cX9_leaves 85 = .ok (.iload 7, 2) := by decide +kernel
theorem dX9_leaves_87 : decode cX9_leaves 87 = .ok (.istore 6, 2) := by decide +kernel
theorem dX9_leaves_89 : decode cX9_leaves 89 = .ok (.iinc 7 1, 3) := by decide +kernel
theorem dX9_leaves_92 : decode cX9_leaves 92 = .ok (.goto (-49), 3) := by decide +kernel
theorem dX9_leaves_95 : decode cX9_leaves 95 = .ok (.aload_n 0, 1) := by decide +kernel
theorem dX9_leaves_96 : decode cX9_leaves 96 = .ok (.getfield 35, 3) := by decide +kernel
theorem dX9_leaves_99 : decode cX9_leaves 99 = .ok (.iload_n 1, 1) := by decide +kernel
theorem dX9_leaves_100 : decode cX9_leaves 100 = .ok (.iload_n 3, 1) := by decide +kernel
theorem dX9_leaves_101 : decode cX9_leaves 101 = .ok (.iastore, 1) := by decide +kernel
theorem dX9_leaves_102 : decode cX9_leaves 102 = .ok (.iload_n 2, 1) := by decide +kernel
theorem dX9_leaves_103 : decode cX9_leaves 103 = .ok (.ifCond .ne 8, 3) := by decide +kernel
theorem dX9_leaves_106 : decode cX9_leaves 106 = .ok (.iload 4, 2) := by decide +kernel
theorem dX9_leaves_108 : decode cX9_leaves 108 = .ok (.goto 15, 3) := by decide +kernel
theorem dX9_leaves_111 : decode cX9_leaves 111 = .ok (.iload_n 2, 1) := by decide +kernel
theorem dX9_leaves_112 : decode cX9_leaves 112 = .ok (.iconst 1, 1) := by decide +kernel
theorem dX9_leaves_113 : decode cX9_leaves 113 = .ok (.if_icmp .ne 8, 3) := by decide +kernel
theorem dX9_leaves_116 : decode cX9_leaves 116 = .ok (.iload 5, 2) := by decide +kernel
theorem dX9_leaves_118 : decode cX9_leaves 118 = .ok (.goto 5, 3) := by decide +kernel
theorem dX9_leaves_121 : decode cX9_leaves 121 = .ok (.iload 6, 2) := by decide +kernel
theorem dX9_leaves_123 : decode cX9_leaves 123 = .ok (.ireturn, 1) := by decide +kernel
theorem dX9_isOwn_0 : decode cX9_isOwn 0 = .ok (.iconst 0, 1) := by decide +kernel
theorem dX9_isOwn_1 : decode cX9_isOwn 1 = .ok (.istore 4, 2) := by decide +kernel
theorem dX9_isOwn_3 : decode cX9_isOwn 3 = .ok (.iload 4, 2) := by decide +kernel
theorem dX9_isOwn_5 : decode cX9_isOwn 5 = .ok (.aload_n 0, 1) := by decide +kernel
theorem dX9_isOwn_6 : decode cX9_isOwn 6 = .ok (.getfield 116, 3) := by decide +kernel
theorem dX9_isOwn_9 : decode cX9_isOwn 9 = .ok (.if_icmp .ge 49, 3) := by decide +kernel
theorem dX9_isOwn_12 : decode cX9_isOwn 12 = .ok (.aload_n 0, 1) := by decide +kernel
theorem dX9_isOwn_13 : decode cX9_isOwn 13 = .ok (.iload 4, 2) := by decide +kernel
theorem dX9_isOwn_15 : decode cX9_isOwn 15 = .ok (.iload_n 2, 1) := by decide +kernel
theorem dX9_isOwn_16 : decode cX9_isOwn 16 = .ok (.iload_n 3, 1) := by decide +kernel
theorem dX9_isOwn_17 : decode cX9_isOwn 17 = .ok (.invokevirtual 172, 3) := by decide +kernel
theorem dX9_isOwn_20 : decode cX9_isOwn 20 = .ok (.aload_n 0, 1) := by decide +kernel
theorem dX9_isOwn_21 : decode cX9_isOwn 21 = .ok (.getfield 38, 3) := by decide +kernel
theorem dX9_isOwn_24 : decode cX9_isOwn 24 = .ok (.bipush 30, 2) := by decide +kernel
theorem dX9_isOwn_26 : decode cX9_isOwn 26 = .ok (.iload 4, 2) := by decide +kernel
theorem dX9_isOwn_28 : decode cX9_isOwn 28 = .ok (.imul, 1) := by decide +kernel
theorem dX9_isOwn_29 : decode cX9_isOwn 29 = .ok (.iload_n 2, 1) := by decide +kernel
theorem dX9_isOwn_30 : decode cX9_isOwn 30 = .ok (.iadd, 1) := by decide +kernel
theorem dX9_isOwn_31 : decode cX9_isOwn 31 = .ok (.aload_n 0, 1) := by decide +kernel
theorem dX9_isOwn_32 : decode cX9_isOwn 32 = .ok (.getfield 150, 3) := by decide +kernel
theorem dX9_isOwn_35 : decode cX9_isOwn 35 = .ok (.lastore, 1) := by decide +kernel
theorem dX9_isOwn_36 : decode cX9_isOwn 36 = .ok (.aload_n 0, 1) := by decide +kernel
theorem dX9_isOwn_37 : decode cX9_isOwn 37 = .ok (.getfield 42, 3) := by decide +kernel
theorem dX9_isOwn_40 : decode cX9_isOwn 40 = .ok (.bipush 30, 2) := by decide +kernel
theorem dX9_isOwn_42 : decode cX9_isOwn 42 = .ok (.iload 4, 2) := by decide +kernel
theorem dX9_isOwn_44 : decode cX9_isOwn 44 = .ok (.imul, 1) := by decide +kernel
theorem dX9_isOwn_45 : decode cX9_isOwn 45 = .ok (.iload_n 2, 1) := by decide +kernel
theorem dX9_isOwn_46 : decode cX9_isOwn 46 = .ok (.iadd, 1) := by decide +kernel
theorem dX9_isOwn_47 : decode cX9_isOwn 47 = .ok (.aload_n 0, 1) := by decide +kernel
theorem dX9_isOwn_48 : decode cX9_isOwn 48 = .ok (.getfield 154, 3) := by decide +kernel
theorem dX9_isOwn_51 : decode cX9_isOwn 51 = .ok (.lastore, 1) := by decide +kernel
theorem dX9_isOwn_52 : decode cX9_isOwn 52 = .ok (.iinc 4 1, 3) := by decide +kernel
theorem dX9_isOwn_55 : decode cX9_isOwn 55 = .ok (.goto (-52), 3) := by decide +kernel
theorem dX9_isOwn_58 : decode cX9_isOwn 58 = .ok (.aload_n 0, 1) := by decide +kernel
theorem dX9_isOwn_59 : decode cX9_isOwn 59 = .ok (.iload_n 2, 1) := by decide +kernel
theorem dX9_isOwn_60 : decode cX9_isOwn 60 = .ok (.invokevirtual 201, 3) := by decide +kernel
theorem dX9_isOwn_63 : decode cX9_isOwn 63 = .ok (.iload_n 1, 1) := by decide +kernel
theorem dX9_isOwn_64 : decode cX9_isOwn 64 = .ok (.if_icmp .ne 7, 3) := by decide +kernel
theorem dX9_isOwn_67 : decode cX9_isOwn 67 = .ok (.iconst 1, 1) := by decide +kernel
theorem dX9_isOwn_68 : decode cX9_isOwn 68 = .ok (.goto 4, 3) := by decide +kernel
theorem dX9_isOwn_71 : decode cX9_isOwn 71 = .ok (.iconst 0, 1) := by decide +kernel
theorem dX9_isOwn_72 : decode cX9_isOwn 72 = .ok (.ireturn, 1) := by decide +kernel
theorem dX9_mayPlant_0 : decode cX9_mayPlant 0 = .ok (.iload_n 1, 1) := by decide +kernel
theorem dX9_mayPlant_1 : decode cX9_mayPlant 1 = .ok (.iload_n 2, 1) := by decide +kernel
theorem dX9_mayPlant_2 : decode cX9_mayPlant 2 = .ok (.if_icmp .eq 24, 3) := by decide +kernel
theorem dX9_mayPlant_5 : decode cX9_mayPlant 5 = .ok (.aload_n 0, 1) := by decide +kernel
theorem dX9_mayPlant_6 : decode cX9_mayPlant 6 = .ok (.getfield 22, 3) := by decide +kernel
theorem dX9_mayPlant_9 : decode cX9_mayPlant 9 = .ok (.iload_n 1, 1) := by decide +kernel
theorem dX9_mayPlant_10 : decode cX9_mayPlant 10 = .ok (.baload, 1) := by decide +kernel
theorem dX9_mayPlant_11 : decode cX9_mayPlant 11 = .ok (.ifCond .ne 15, 3) := by decide +kernel
theorem dX9_mayPlant_14 : decode cX9_mayPlant 14 = .ok (.aload_n 0, 1) := by decide +kernel
theorem dX9_mayPlant_15 : decode cX9_mayPlant 15 = .ok (.iload_n 1, 1) := by decide +kernel
theorem dX9_mayPlant_16 : decode cX9_mayPlant 16 = .ok (.invokevirtual 139, 3) := by decide +kernel
theorem dX9_mayPlant_19 : decode cX9_mayPlant 19 = .ok (.ifCond .ne 7, 3) := by decide +kernel
theorem dX9_mayPlant_22 : decode cX9_mayPlant 22 = .ok (.iconst 1, 1) := by decide +kernel
theorem dX9_mayPlant_23 : decode cX9_mayPlant 23 = .ok (.goto 4, 3) := by decide +kernel
theorem dX9_mayPlant_26 : decode cX9_mayPlant 26 = .ok (.iconst 0, 1) := by decide +kernel
theorem dX9_mayPlant_27 : decode cX9_mayPlant 27 = .ok (.ireturn, 1) := by decide +kernel
theorem dX9_keepsBy_0 : decode cX9_keepsBy 0 = .ok (.aload_n 0, 1) := by decide +kernel
theorem dX9_keepsBy_1 : decode cX9_keepsBy 1 = .ok (.invokevirtual 85, 3) := by decide +kernel
theorem dX9_keepsBy_4 : decode cX9_keepsBy 4 = .ok (.istore 5, 2) := by decide +kernel
theorem dX9_keepsBy_6 : decode cX9_keepsBy 6 = .ok (.iload_n 1, 1) := by decide +kernel
theorem dX9_keepsBy_7 : decode cX9_keepsBy 7 = .ok (.ifCond .le 7, 3) := by decide +kernel
theorem dX9_keepsBy_10 : decode cX9_keepsBy 10 = .ok (.iconst 0, 1) := by decide +kernel
theorem dX9_keepsBy_11 : decode cX9_keepsBy 11 = .ok (.goto 5, 3) := by decide +kernel
theorem dX9_keepsBy_14 : decode cX9_keepsBy 14 = .ok (.bipush (-9), 2) := by decide +kernel
theorem dX9_keepsBy_16 : decode cX9_keepsBy 16 = .ok (.istore 6, 2) := by decide +kernel
theorem dX9_keepsBy_18 : decode cX9_keepsBy 18 = .ok (.iload 6, 2) := by decide +kernel
theorem dX9_keepsBy_20 : decode cX9_keepsBy 20 = .ok (.iload 5, 2) := by decide +kernel
theorem dX9_keepsBy_22 : decode cX9_keepsBy 22 = .ok (.if_icmp .ge 104, 3) := by decide +kernel
theorem dX9_keepsBy_25 : decode cX9_keepsBy 25 = .ok (.iload_n 1, 1) := by decide +kernel
theorem dX9_keepsBy_26 : decode cX9_keepsBy 26 = .ok (.iconst 1, 1) := by decide +kernel
theorem dX9_keepsBy_27 : decode cX9_keepsBy 27 = .ok (.if_icmp .le 10, 3) := by decide +kernel
theorem dX9_keepsBy_30 : decode cX9_keepsBy 30 = .ok (.iload 6, 2) := by decide +kernel
theorem dX9_keepsBy_32 : decode cX9_keepsBy 32 = .ok (.iconst 1, 1) := by decide +kernel
theorem dX9_keepsBy_33 : decode cX9_keepsBy 33 = .ok (.iadd, 1) := by decide +kernel
theorem dX9_keepsBy_34 : decode cX9_keepsBy 34 = .ok (.goto 5, 3) := by decide +kernel
theorem dX9_keepsBy_37 : decode cX9_keepsBy 37 = .ok (.bipush (-9), 2) := by decide +kernel
theorem dX9_keepsBy_39 : decode cX9_keepsBy 39 = .ok (.istore 7, 2) := by decide +kernel
theorem dX9_keepsBy_41 : decode cX9_keepsBy 41 = .ok (.iload 7, 2) := by decide +kernel
theorem dX9_keepsBy_43 : decode cX9_keepsBy 43 = .ok (.iload 5, 2) := by decide +kernel
theorem dX9_keepsBy_45 : decode cX9_keepsBy 45 = .ok (.if_icmp .ge 69, 3) := by decide +kernel
theorem dX9_keepsBy_48 : decode cX9_keepsBy 48 = .ok (.iload_n 1, 1) := by decide +kernel
theorem dX9_keepsBy_49 : decode cX9_keepsBy 49 = .ok (.iconst 2, 1) := by decide +kernel
theorem dX9_keepsBy_50 : decode cX9_keepsBy 50 = .ok (.if_icmp .le 10, 3) := by decide +kernel
theorem dX9_keepsBy_53 : decode cX9_keepsBy 53 = .ok (.iload 7, 2) := by decide +kernel
theorem dX9_keepsBy_55 : decode cX9_keepsBy 55 = .ok (.iconst 1, 1) := by decide +kernel
theorem dX9_keepsBy_56 : decode cX9_keepsBy 56 = .ok (.iadd, 1) := by decide +kernel
theorem dX9_keepsBy_57 : decode cX9_keepsBy 57 = .ok (.goto 5, 3) := by decide +kernel
theorem dX9_keepsBy_60 : decode cX9_keepsBy 60 = .ok (.bipush (-9), 2) := by decide +kernel
theorem dX9_keepsBy_62 : decode cX9_keepsBy 62 = .ok (.istore 8, 2) := by decide +kernel
theorem dX9_keepsBy_64 : decode cX9_keepsBy 64 = .ok (.iload 8, 2) := by decide +kernel
theorem dX9_keepsBy_66 : decode cX9_keepsBy 66 = .ok (.iload 5, 2) := by decide +kernel
theorem dX9_keepsBy_68 : decode cX9_keepsBy 68 = .ok (.if_icmp .ge 34, 3) := by decide +kernel
theorem dX9_keepsBy_71 : decode cX9_keepsBy 71 = .ok (.aload_n 0, 1) := by decide +kernel
theorem dX9_keepsBy_72 : decode cX9_keepsBy 72 = .ok (.iload 6, 2) := by decide +kernel
theorem dX9_keepsBy_74 : decode cX9_keepsBy 74 = .ok (.iload 7, 2) := by decide +kernel
theorem dX9_keepsBy_76 : decode cX9_keepsBy 76 = .ok (.iload 8, 2) := by decide +kernel
theorem dX9_keepsBy_78 : decode cX9_keepsBy 78 = .ok (.iload_n 2, 1) := by decide +kernel
theorem dX9_keepsBy_79 : decode cX9_keepsBy 79 = .ok (.iload_n 3, 1) := by decide +kernel
theorem dX9_keepsBy_80 : decode cX9_keepsBy 80 = .ok (.iload 4, 2) := by decide +kernel
theorem dX9_keepsBy_82 : decode cX9_keepsBy 82 = .ok (.invokevirtual 237, 3) := by decide +kernel
theorem dX9_keepsBy_85 : decode cX9_keepsBy 85 = .ok (.ifCond .eq 5, 3) := by decide +kernel
theorem dX9_keepsBy_88 : decode cX9_keepsBy 88 = .ok (.iconst 1, 1) := by decide +kernel
theorem dX9_keepsBy_89 : decode cX9_keepsBy 89 = .ok (.ireturn, 1) := by decide +kernel
theorem dX9_keepsBy_90 : decode cX9_keepsBy 90 = .ok (.iload 8, 2) := by decide +kernel
theorem dX9_keepsBy_92 : decode cX9_keepsBy 92 = .ok (.iload 5, 2) := by decide +kernel
theorem dX9_keepsBy_94 : decode cX9_keepsBy 94 = .ok (.invokestatic 241, 3) := by decide +kernel
theorem dX9_keepsBy_97 : decode cX9_keepsBy 97 = .ok (.istore 8, 2) := by decide +kernel
theorem dX9_keepsBy_99 : decode cX9_keepsBy 99 = .ok (.goto (-35), 3) := by decide +kernel
theorem dX9_keepsBy_102 : decode cX9_keepsBy 102 = .ok (.iload 7, 2) := by decide +kernel
theorem dX9_keepsBy_104 : decode cX9_keepsBy 104 = .ok (.iload 5, 2) := by decide +kernel
theorem dX9_keepsBy_106 : decode cX9_keepsBy 106 = .ok (.invokestatic 241, 3) := by decide +kernel
theorem dX9_keepsBy_109 : decode cX9_keepsBy 109 = .ok (.istore 7, 2) := by decide +kernel
theorem dX9_keepsBy_111 : decode cX9_keepsBy 111 = .ok (.goto (-70), 3) := by decide +kernel
theorem dX9_keepsBy_114 : decode cX9_keepsBy 114 = .ok (.iload 6, 2) := by decide +kernel
theorem dX9_keepsBy_116 : decode cX9_keepsBy 116 = .ok (.iload 5, 2) := by decide +kernel
theorem dX9_keepsBy_118 : decode cX9_keepsBy 118 = .ok (.invokestatic 241, 3) := by decide +kernel
theorem dX9_keepsBy_121 : decode cX9_keepsBy 121 = .ok (.istore 6, 2) := by decide +kernel
theorem dX9_keepsBy_123 : decode cX9_keepsBy 123 = .ok (.goto (-105), 3) := by decide +kernel
theorem dX9_keepsBy_126 : decode cX9_keepsBy 126 = .ok (.iconst 0, 1) := by decide +kernel
theorem dX9_keepsBy_127 : decode cX9_keepsBy 127 = .ok (.ireturn, 1) := by decide +kernel
theorem dX9_nextOf_0 : decode cX9_nextOf 0 = .ok (.iload_n 0, 1) := by decide +kernel
theorem dX9_nextOf_1 : decode cX9_nextOf 1 = .ok (.bipush (-9), 2) := by decide +kernel
theorem dX9_nextOf_3 : decode cX9_nextOf 3 = .ok (.if_icmp .ne 7, 3) := by decide +kernel
theorem dX9_nextOf_6 : decode cX9_nextOf 6 = .ok (.iload_n 1, 1) := by decide +kernel
theorem dX9_nextOf_7 : decode cX9_nextOf 7 = .ok (.goto 6, 3) := by decide +kernel
theorem dX9_nextOf_10 : decode cX9_nextOf 10 = .ok (.iload_n 0, 1) := by decide +kernel
theorem dX9_nextOf_11 : decode cX9_nextOf 11 = .ok (.iconst 1, 1) := by decide +kernel
theorem dX9_nextOf_12 : decode cX9_nextOf 12 = .ok (.iadd, 1) := by decide +kernel
theorem dX9_nextOf_13 : decode cX9_nextOf 13 = .ok (.ireturn, 1) := by decide +kernel
theorem dX9_keepsSo_0 : decode cX9_keepsSo 0 = .ok (.aload_n 0, 1) := by decide +kernel
theorem dX9_keepsSo_1 : decode cX9_keepsSo 1 = .ok (.getfield 57, 3) := by decide +kernel
theorem dX9_keepsSo_4 : decode cX9_keepsSo 4 = .ok (.iconst 0, 1) := by decide +kernel
theorem dX9_keepsSo_5 : decode cX9_keepsSo 5 = .ok (.iload_n 1, 1) := by decide +kernel
theorem dX9_keepsSo_6 : decode cX9_keepsSo 6 = .ok (.iastore, 1) := by decide +kernel
theorem dX9_keepsSo_7 : decode cX9_keepsSo 7 = .ok (.aload_n 0, 1) := by decide +kernel
theorem dX9_keepsSo_8 : decode cX9_keepsSo 8 = .ok (.getfield 57, 3) := by decide +kernel
theorem dX9_keepsSo_11 : decode cX9_keepsSo 11 = .ok (.iconst 1, 1) := by decide +kernel
theorem dX9_keepsSo_12 : decode cX9_keepsSo 12 = .ok (.iload_n 2, 1) := by decide +kernel
theorem dX9_keepsSo_13 : decode cX9_keepsSo 13 = .ok (.iastore, 1) := by decide +kernel
theorem dX9_keepsSo_14 : decode cX9_keepsSo 14 = .ok (.aload_n 0, 1) := by decide +kernel
theorem dX9_keepsSo_15 : decode cX9_keepsSo 15 = .ok (.getfield 57, 3) := by decide +kernel
theorem dX9_keepsSo_18 : decode cX9_keepsSo 18 = .ok (.iconst 2, 1) := by decide +kernel
theorem dX9_keepsSo_19 : decode cX9_keepsSo 19 = .ok (.iload_n 3, 1) := by decide +kernel
theorem dX9_keepsSo_20 : decode cX9_keepsSo 20 = .ok (.iastore, 1) := by decide +kernel
theorem dX9_keepsSo_21 : decode cX9_keepsSo 21 = .ok (.iconst 0, 1) := by decide +kernel
theorem dX9_keepsSo_22 : decode cX9_keepsSo 22 = .ok (.istore 7, 2) := by decide +kernel
theorem dX9_keepsSo_24 : decode cX9_keepsSo 24 = .ok (.iload 7, 2) := by decide +kernel
theorem dX9_keepsSo_26 : decode cX9_keepsSo 26 = .ok (.iconst 3, 1) := by decide +kernel
theorem dX9_keepsSo_27 : decode cX9_keepsSo 27 = .ok (.if_icmp .ge 39, 3) := by decide +kernel
theorem dX9_keepsSo_30 : decode cX9_keepsSo 30 = .ok (.aload_n 0, 1) := by decide +kernel
theorem dX9_keepsSo_31 : decode cX9_keepsSo 31 = .ok (.getfield 57, 3) := by decide +kernel
theorem dX9_keepsSo_34 : decode cX9_keepsSo 34 = .ok (.iload 7, 2) := by decide +kernel
theorem dX9_keepsSo_36 : decode cX9_keepsSo 36 = .ok (.iaload, 1) := by decide +kernel
theorem dX9_keepsSo_37 : decode cX9_keepsSo 37 = .ok (.bipush (-9), 2) := by decide +kernel
theorem dX9_keepsSo_39 : decode cX9_keepsSo 39 = .ok (.if_icmp .eq 21, 3) := by decide +kernel
theorem dX9_keepsSo_42 : decode cX9_keepsSo 42 = .ok (.aload_n 0, 1) := by decide +kernel
theorem dX9_keepsSo_43 : decode cX9_keepsSo 43 = .ok (.aload_n 0, 1) := by decide +kernel
theorem dX9_keepsSo_44 : decode cX9_keepsSo 44 = .ok (.getfield 57, 3) := by decide +kernel
theorem dX9_keepsSo_47 : decode cX9_keepsSo 47 = .ok (.iload 7, 2) := by decide +kernel
theorem dX9_keepsSo_49 : decode cX9_keepsSo 49 = .ok (.iaload, 1) := by decide +kernel
theorem dX9_keepsSo_50 : decode cX9_keepsSo 50 = .ok (.iload 5, 2) := by decide +kernel
theorem dX9_keepsSo_52 : decode cX9_keepsSo 52 = .ok (.invokevirtual 244, 3) := by decide +kernel
theorem dX9_keepsSo_55 : decode cX9_keepsSo 55 = .ok (.ifCond .ne 5, 3) := by decide +kernel
theorem dX9_keepsSo_58 : decode cX9_keepsSo 58 = .ok (.iconst 0, 1) := by decide +kernel
theorem dX9_keepsSo_59 : decode cX9_keepsSo 59 = .ok (.ireturn, 1) := by decide +kernel
theorem dX9_keepsSo_60 : decode cX9_keepsSo 60 = .ok (.iinc 7 1, 3) := by decide +kernel
theorem dX9_keepsSo_63 : decode cX9_keepsSo 63 = .ok (.goto (-39), 3) := by decide +kernel
theorem dX9_keepsSo_66 : decode cX9_keepsSo 66 = .ok (.aload_n 0, 1) := by decide +kernel
theorem dX9_keepsSo_67 : decode cX9_keepsSo 67 = .ok (.iconst 1, 1) := by decide +kernel
theorem dX9_keepsSo_68 : decode cX9_keepsSo 68 = .ok (.invokevirtual 247, 3) := by decide +kernel
theorem dX9_keepsSo_71 : decode cX9_keepsSo 71 = .ok (.aload_n 0, 1) := by decide +kernel
theorem dX9_keepsSo_72 : decode cX9_keepsSo 72 = .ok (.iload 4, 2) := by decide +kernel
theorem dX9_keepsSo_74 : decode cX9_keepsSo 74 = .ok (.iload 5, 2) := by decide +kernel
theorem dX9_keepsSo_76 : decode cX9_keepsSo 76 = .ok (.iload 6, 2) := by decide +kernel
theorem dX9_keepsSo_78 : decode cX9_keepsSo 78 = .ok (.invokevirtual 251, 3) := by decide +kernel
theorem dX9_keepsSo_81 : decode cX9_keepsSo 81 = .ok (.istore 7, 2) := by decide +kernel
theorem dX9_keepsSo_83 : decode cX9_keepsSo 83 = .ok (.aload_n 0, 1) := by decide +kernel
theorem dX9_keepsSo_84 : decode cX9_keepsSo 84 = .ok (.iconst 0, 1) := by decide +kernel
theorem dX9_keepsSo_85 : decode cX9_keepsSo 85 = .ok (.invokevirtual 247, 3) := by decide +kernel
theorem dX9_keepsSo_88 : decode cX9_keepsSo 88 = .ok (.iload 7, 2) := by decide +kernel
theorem dX9_keepsSo_90 : decode cX9_keepsSo 90 = .ok (.ireturn, 1) := by decide +kernel
theorem dX9_plantTried_0 : decode cX9_plantTried 0 = .ok (.iconst 0, 1) := by decide +kernel
theorem dX9_plantTried_1 : decode cX9_plantTried 1 = .ok (.istore_n 2, 1) := by decide +kernel
theorem dX9_plantTried_2 : decode cX9_plantTried 2 = .ok (.iload_n 2, 1) := by decide +kernel
theorem dX9_plantTried_3 : decode cX9_plantTried 3 = .ok (.iconst 3, 1) := by decide +kernel
theorem dX9_plantTried_4 : decode cX9_plantTried 4 = .ok (.if_icmp .ge 32, 3) := by decide +kernel
theorem dX9_plantTried_7 : decode cX9_plantTried 7 = .ok (.aload_n 0, 1) := by decide +kernel
theorem dX9_plantTried_8 : decode cX9_plantTried 8 = .ok (.getfield 57, 3) := by decide +kernel
theorem dX9_plantTried_11 : decode cX9_plantTried 11 = .ok (.iload_n 2, 1) := by decide +kernel
theorem dX9_plantTried_12 : decode cX9_plantTried 12 = .ok (.iaload, 1) := by decide +kernel
theorem dX9_plantTried_13 : decode cX9_plantTried 13 = .ok (.bipush (-9), 2) := by decide +kernel
theorem dX9_plantTried_15 : decode cX9_plantTried 15 = .ok (.if_icmp .eq 15, 3) := by decide +kernel
theorem dX9_plantTried_18 : decode cX9_plantTried 18 = .ok (.aload_n 0, 1) := by decide +kernel
theorem dX9_plantTried_19 : decode cX9_plantTried 19 = .ok (.getfield 22, 3) := by decide +kernel
theorem dX9_plantTried_22 : decode cX9_plantTried 22 = .ok (.aload_n 0, 1) := by decide +kernel
theorem dX9_plantTried_23 : decode cX9_plantTried 23 = .ok (.getfield 57, 3) := by decide +kernel
theorem dX9_plantTried_26 : decode cX9_plantTried 26 = .ok (.iload_n 2, 1) := by decide +kernel
theorem dX9_plantTried_27 : decode cX9_plantTried 27 = .ok (.iaload, 1) := by decide +kernel
theorem dX9_plantTried_28 : decode cX9_plantTried 28 = .ok (.iload_n 1, 1) := by decide +kernel
theorem dX9_plantTried_29 : decode cX9_plantTried 29 = .ok (.bastore, 1) := by decide +kernel
theorem dX9_plantTried_30 : decode cX9_plantTried 30 = .ok (.iinc 2 1, 3) := by decide +kernel
theorem dX9_plantTried_33 : decode cX9_plantTried 33 = .ok (.goto (-31), 3) := by decide +kernel
theorem dX9_plantTried_36 : decode cX9_plantTried 36 = .ok (.return_, 1) := by decide +kernel
theorem dX9_keep_0 : decode cX9_keep 0 = .ok (.aload_n 0, 1) := by decide +kernel
theorem dX9_keep_1 : decode cX9_keep 1 = .ok (.iload_n 1, 1) := by decide +kernel
theorem dX9_keep_2 : decode cX9_keep 2 = .ok (.invokevirtual 145, 3) := by decide +kernel
theorem dX9_keep_5 : decode cX9_keep 5 = .ok (.ifCond .eq 11, 3) := by decide +kernel
theorem dX9_keep_8 : decode cX9_keep 8 = .ok (.aload_n 0, 1) := by decide +kernel
theorem dX9_keep_9 : decode cX9_keep 9 = .ok (.iload_n 2, 1) := by decide +kernel
theorem dX9_keep_10 : decode cX9_keep 10 = .ok (.invokevirtual 133, 3) := by decide +kernel
theorem dX9_keep_13 : decode cX9_keep 13 = .ok (.ifCond .ne 5, 3) := by decide +kernel
theorem dX9_keep_16 : decode cX9_keep 16 = .ok (.iconst (-1), 1) := by decide +kernel
theorem dX9_keep_17 : decode cX9_keep 17 = .ok (.ireturn, 1) := by decide +kernel
theorem dX9_keep_18 : decode cX9_keep 18 = .ok (.iload_n 3, 1) := by decide +kernel
theorem dX9_keep_19 : decode cX9_keep 19 = .ok (.invokestatic 169, 3) := by decide +kernel
theorem dX9_keep_22 : decode cX9_keep 22 = .ok (.ifCond .ne 6, 3) := by decide +kernel
theorem dX9_keep_25 : decode cX9_keep 25 = .ok (.bipush (-2), 2) := by decide +kernel
theorem dX9_keep_27 : decode cX9_keep 27 = .ok (.ireturn, 1) := by decide +kernel
theorem dX9_keep_28 : decode cX9_keep 28 = .ok (.iload 4, 2) := by decide +kernel
theorem dX9_keep_30 : decode cX9_keep 30 = .ok (.iconst (-1), 1) := by decide +kernel
theorem dX9_keep_31 : decode cX9_keep 31 = .ok (.iconst 2, 1) := by decide +kernel
theorem dX9_keep_32 : decode cX9_keep 32 = .ok (.invokestatic 75, 3) := by decide +kernel
theorem dX9_keep_35 : decode cX9_keep 35 = .ok (.ifCond .ne 5, 3) := by decide +kernel
theorem dX9_keep_38 : decode cX9_keep 38 = .ok (.iconst (-1), 1) := by decide +kernel
theorem dX9_keep_39 : decode cX9_keep 39 = .ok (.ireturn, 1) := by decide +kernel
theorem dX9_keep_40 : decode cX9_keep 40 = .ok (.iconst 0, 1) := by decide +kernel
theorem dX9_keep_41 : decode cX9_keep 41 = .ok (.istore 5, 2) := by decide +kernel
theorem dX9_keep_43 : decode cX9_keep 43 = .ok (.iload 5, 2) := by decide +kernel
theorem dX9_keep_45 : decode cX9_keep 45 = .ok (.iconst 3, 1) := by decide +kernel
theorem dX9_keep_46 : decode cX9_keep 46 = .ok (.if_icmp .gt 52, 3) := by decide +kernel
theorem dX9_keep_49 : decode cX9_keep 49 = .ok (.aload_n 0, 1) := by decide +kernel
theorem dX9_keep_50 : decode cX9_keep 50 = .ok (.iload 5, 2) := by decide +kernel
theorem dX9_keep_52 : decode cX9_keep 52 = .ok (.iload_n 1, 1) := by decide +kernel
theorem dX9_keep_53 : decode cX9_keep 53 = .ok (.iload_n 2, 1) := by decide +kernel
theorem dX9_keep_54 : decode cX9_keep 54 = .ok (.iload_n 3, 1) := by decide +kernel
theorem dX9_keep_55 : decode cX9_keep 55 = .ok (.invokevirtual 254, 3) := by decide +kernel
theorem dX9_keep_58 : decode cX9_keep 58 = .ok (.ifCond .eq 34, 3) := by decide +kernel
theorem dX9_keep_61 : decode cX9_keep 61 = .ok (.iload 4, 2) := by decide +kernel
theorem dX9_keep_63 : decode cX9_keep 63 = .ok (.iconst (-1), 1) := by decide +kernel
theorem dX9_keep_64 : decode cX9_keep 64 = .ok (.if_icmp .ne 8, 3) := by decide +kernel
theorem dX9_keep_67 : decode cX9_keep 67 = .ok (.iload 5, 2) := by decide +kernel
theorem dX9_keep_69 : decode cX9_keep 69 = .ok (.goto 22, 3) := by decide +kernel
theorem dX9_keep_72 : decode cX9_keep 72 = .ok (.iload 4, 2) := by decide +kernel
theorem dX9_keep_74 : decode cX9_keep 74 = .ok (.iload 5, 2) := by decide +kernel
theorem dX9_keep_76 : decode cX9_keep 76 = .ok (.if_icmp .ge 13, 3) := by decide +kernel
theorem dX9_keep_79 : decode cX9_keep 79 = .ok (.aload_n 0, 1) := by decide +kernel
theorem dX9_keep_80 : decode cX9_keep 80 = .ok (.getfield 57, 3) := by decide +kernel
theorem dX9_keep_83 : decode cX9_keep 83 = .ok (.iload 4, 2) := by decide +kernel
theorem dX9_keep_85 : decode cX9_keep 85 = .ok (.iaload, 1) := by decide +kernel
theorem dX9_keep_86 : decode cX9_keep 86 = .ok (.goto 5, 3) := by decide +kernel
theorem dX9_keep_89 : decode cX9_keep 89 = .ok (.bipush (-9), 2) := by decide +kernel
theorem dX9_keep_91 : decode cX9_keep 91 = .ok (.ireturn, 1) := by decide +kernel
theorem dX9_keep_92 : decode cX9_keep 92 = .ok (.iinc 5 1, 3) := by decide +kernel
theorem dX9_keep_95 : decode cX9_keep 95 = .ok (.goto (-52), 3) := by decide +kernel
theorem dX9_keep_98 : decode cX9_keep 98 = .ok (.bipush (-9), 2) := by decide +kernel
theorem dX9_keep_100 : decode cX9_keep 100 = .ok (.ireturn, 1) := by decide +kernel
theorem dX9_layClashes_0 : decode cX9_layClashes 0 = .ok (.iconst 0, 1) := by decide +kernel
theorem dX9_layClashes_1 : decode cX9_layClashes 1 = .ok (.istore_n 1, 1) := by decide +kernel
theorem dX9_layClashes_2 : decode cX9_layClashes 2 = .ok (.iload_n 1, 1) := by decide +kernel
theorem dX9_layClashes_3 : decode cX9_layClashes 3 = .ok (.aload_n 0, 1) := by decide +kernel
theorem dX9_layClashes_4 : decode cX9_layClashes 4 = .ok (.getfield 116, 3) := by decide +kernel
theorem dX9_layClashes_7 : decode cX9_layClashes 7 = .ok (.if_icmp .ge 92, 3) := by decide +kernel
theorem dX9_layClashes_10 : decode cX9_layClashes 10 = .ok (.iconst 0, 1) := by decide +kernel
theorem dX9_layClashes_11 : decode cX9_layClashes 11 = .ok (.istore_n 2, 1) := by decide +kernel
theorem dX9_layClashes_12 : decode cX9_layClashes 12 = .ok (.iload_n 2, 1) := by decide +kernel
theorem dX9_layClashes_13 : decode cX9_layClashes 13 = .ok (.aload_n 0, 1) := by decide +kernel
theorem dX9_layClashes_14 : decode cX9_layClashes 14 = .ok (.getfield 116, 3) := by decide +kernel
theorem dX9_layClashes_17 : decode cX9_layClashes 17 = .ok (.if_icmp .ge 76, 3) := by decide +kernel
theorem dX9_layClashes_20 : decode cX9_layClashes 20 = .ok (.iconst 0, 1) := by decide +kernel
theorem dX9_layClashes_21 : decode cX9_layClashes 21 = .ok (.istore_n 3, 1) := by decide +kernel
theorem dX9_layClashes_22 : decode cX9_layClashes 22 = .ok (.iconst 0, 1) := by decide +kernel
theorem dX9_layClashes_23 : decode cX9_layClashes 23 = .ok (.istore 4, 2) := by decide +kernel
theorem dX9_layClashes_25 : decode cX9_layClashes 25 = .ok (.iload 4, 2) := by decide +kernel
theorem dX9_layClashes_27 : decode cX9_layClashes 27 = .ok (.aload_n 0, 1) := by decide +kernel
theorem dX9_layClashes_28 : decode cX9_layClashes 28 = .ok (.invokevirtual 85, 3) := by decide +kernel
theorem dX9_layClashes_31 : decode cX9_layClashes 31 = .ok (.if_icmp .ge 44, 3) := by decide +kernel
theorem dX9_layClashes_34 : decode cX9_layClashes 34 = .ok (.iload_n 1, 1) := by decide +kernel
theorem dX9_layClashes_35 : decode cX9_layClashes 35 = .ok (.iload_n 2, 1) := by decide +kernel
theorem dX9_layClashes_36 : decode cX9_layClashes 36 = .ok (.if_icmp .eq 39, 3) := by decide +kernel
theorem dX9_layClashes_39 : decode cX9_layClashes 39 = .ok (.iload_n 3, 1) := by decide +kernel
theorem dX9_layClashes_40 : decode cX9_layClashes 40 = .ok (.ifCond .ne 23, 3) := by decide +kernel
theorem dX9_layClashes_43 : decode cX9_layClashes 43 = .ok (.aload_n 0, 1) := by decide +kernel
theorem dX9_layClashes_44 : decode cX9_layClashes 44 = .ok (.iload_n 1, 1) := by decide +kernel
theorem dX9_layClashes_45 : decode cX9_layClashes 45 = .ok (.iload 4, 2) := by decide +kernel
theorem dX9_layClashes_47 : decode cX9_layClashes 47 = .ok (.invokevirtual 194, 3) := by decide +kernel
theorem dX9_layClashes_50 : decode cX9_layClashes 50 = .ok (.ifCond .eq 17, 3) := by decide +kernel
theorem dX9_layClashes_53 : decode cX9_layClashes 53 = .ok (.aload_n 0, 1) := by decide +kernel
theorem dX9_layClashes_54 : decode cX9_layClashes 54 = .ok (.iload_n 2, 1) := by decide +kernel
theorem dX9_layClashes_55 : decode cX9_layClashes 55 = .ok (.iload 4, 2) := by decide +kernel
theorem dX9_layClashes_57 : decode cX9_layClashes 57 = .ok (.invokevirtual 194, 3) := by decide +kernel
theorem dX9_layClashes_60 : decode cX9_layClashes 60 = .ok (.ifCond .eq 7, 3) := by decide +kernel
theorem dX9_layClashes_63 : decode cX9_layClashes 63 = .ok (.iconst 1, 1) := by decide +kernel
theorem dX9_layClashes_64 : decode cX9_layClashes 64 = .ok (.goto 4, 3) := by decide +kernel
theorem dX9_layClashes_67 : decode cX9_layClashes 67 = .ok (.iconst 0, 1) := by decide +kernel
theorem dX9_layClashes_68 : decode cX9_layClashes 68 = .ok (.istore_n 3, 1) := by decide +kernel
theorem dX9_layClashes_69 : decode cX9_layClashes 69 = .ok (.iinc 4 1, 3) := by decide +kernel
theorem dX9_layClashes_72 : decode cX9_layClashes 72 = .ok (.goto (-47), 3) := by decide +kernel
theorem dX9_layClashes_75 : decode cX9_layClashes 75 = .ok (.aload_n 0, 1) := by decide +kernel
theorem dX9_layClashes_76 : decode cX9_layClashes 76 = .ok (.getfield 60, 3) := by decide +kernel
