theorem dX8_land_15 : decode cX8_land 15 = .ok (.invokestatic 81, 3) := by decide +kernel
theorem dX8_land_18 : decode cX8_land 18 = .ok (.ifCond .ne 6, 3) := by decide +kernel
theorem dX8_land_21 : decode cX8_land 21 = .ok (.bipush (-2), 2) := by decide +kernel
theorem dX8_land_23 : decode cX8_land 23 = .ok (.ireturn, 1) := by decide +kernel
theorem dX8_land_24 : decode cX8_land 24 = .ok (.aload_n 0, 1) := by decide +kernel
theorem dX8_land_25 : decode cX8_land 25 = .ok (.getfield 68, 3) := by decide +kernel
theorem dX8_land_28 : decode cX8_land 28 = .ok (.iload_n 1, 1) := by decide +kernel
theorem dX8_land_29 : decode cX8_land 29 = .ok (.aaload, 1) := by decide +kernel
theorem dX8_land_30 : decode cX8_land 30 = .ok (.astore 5, 2) := by decide +kernel
theorem dX8_land_32 : decode cX8_land 32 = .ok (.aload_n 0, 1) := by decide +kernel
theorem dX8_land_33 : decode cX8_land 33 = .ok (.aload 5, 2) := by decide +kernel
theorem dX8_land_35 : decode cX8_land 35 = .ok (.iload_n 2, 1) := by decide +kernel
theorem dX8_land_36 : decode cX8_land 36 = .ok (.iload_n 3, 1) := by decide +kernel
theorem dX8_land_37 : decode cX8_land 37 = .ok (.iload 4, 2) := by decide +kernel
theorem dX8_land_39 : decode cX8_land 39 = .ok (.invokevirtual 84, 3) := by decide +kernel
theorem dX8_land_42 : decode cX8_land 42 = .ok (.putfield 73, 3) := by decide +kernel
theorem dX8_land_45 : decode cX8_land 45 = .ok (.aload_n 0, 1) := by decide +kernel
theorem dX8_land_46 : decode cX8_land 46 = .ok (.getfield 73, 3) := by decide +kernel
theorem dX8_land_49 : decode cX8_land 49 = .ok (.ifCond .eq 11, 3) := by decide +kernel
theorem dX8_land_52 : decode cX8_land 52 = .ok (.bipush (-10), 2) := by decide +kernel
theorem dX8_land_54 : decode cX8_land 54 = .ok (.aload_n 0, 1) := by decide +kernel
theorem dX8_land_55 : decode cX8_land 55 = .ok (.getfield 73, 3) := by decide +kernel
theorem dX8_land_58 : decode cX8_land 58 = .ok (.isub, 1) := by decide +kernel
theorem dX8_land_59 : decode cX8_land 59 = .ok (.ireturn, 1) := by decide +kernel
theorem dX8_land_60 : decode cX8_land 60 = .ok (.aload_n 0, 1) := by decide +kernel
theorem dX8_land_61 : decode cX8_land 61 = .ok (.getfield 14, 3) := by decide +kernel
theorem dX8_land_64 : decode cX8_land 64 = .ok (.aload 5, 2) := by decide +kernel
theorem dX8_land_66 : decode cX8_land 66 = .ok (.getfield 88, 3) := by decide +kernel
theorem dX8_land_69 : decode cX8_land 69 = .ok (.iload_n 3, 1) := by decide +kernel
theorem dX8_land_70 : decode cX8_land 70 = .ok (.iload 4, 2) := by decide +kernel
theorem dX8_land_72 : decode cX8_land 72 = .ok (.invokevirtual 92, 3) := by decide +kernel
theorem dX8_land_75 : decode cX8_land 75 = .ok (.istore 6, 2) := by decide +kernel
theorem dX8_land_77 : decode cX8_land 77 = .ok (.iload 6, 2) := by decide +kernel
theorem dX8_land_79 : decode cX8_land 79 = .ok (.bipush (-9), 2) := by decide +kernel
theorem dX8_land_81 : decode cX8_land 81 = .ok (.if_icmp .eq 9, 3) := by decide +kernel
theorem dX8_land_84 : decode cX8_land 84 = .ok (.bipush (-100), 2) := by decide +kernel
theorem dX8_land_86 : decode cX8_land 86 = .ok (.iload 6, 2) := by decide +kernel
theorem dX8_land_88 : decode cX8_land 88 = .ok (.isub, 1) := by decide +kernel
theorem dX8_land_89 : decode cX8_land 89 = .ok (.ireturn, 1) := by decide +kernel
theorem dX8_land_90 : decode cX8_land 90 = .ok (.aload_n 0, 1) := by decide +kernel
theorem dX8_land_91 : decode cX8_land 91 = .ok (.getfield 14, 3) := by decide +kernel
theorem dX8_land_94 : decode cX8_land 94 = .ok (.aload 5, 2) := by decide +kernel
theorem dX8_land_96 : decode cX8_land 96 = .ok (.getfield 88, 3) := by decide +kernel
theorem dX8_land_99 : decode cX8_land 99 = .ok (.iload_n 3, 1) := by decide +kernel
theorem dX8_land_100 : decode cX8_land 100 = .ok (.invokevirtual 96, 3) := by decide +kernel
theorem dX8_land_103 : decode cX8_land 103 = .ok (.aload_n 0, 1) := by decide +kernel
theorem dX8_land_104 : decode cX8_land 104 = .ok (.getfield 21, 3) := by decide +kernel
theorem dX8_land_107 : decode cX8_land 107 = .ok (.iconst 0, 1) := by decide +kernel
theorem dX8_land_108 : decode cX8_land 108 = .ok (.putfield 100, 3) := by decide +kernel
theorem dX8_land_111 : decode cX8_land 111 = .ok (.aload_n 0, 1) := by decide +kernel
theorem dX8_land_112 : decode cX8_land 112 = .ok (.getfield 39, 3) := by decide +kernel
theorem dX8_land_115 : decode cX8_land 115 = .ok (.iconst 0, 1) := by decide +kernel
theorem dX8_land_116 : decode cX8_land 116 = .ok (.putfield 103, 3) := by decide +kernel
theorem dX8_land_119 : decode cX8_land 119 = .ok (.aload_n 0, 1) := by decide +kernel
theorem dX8_land_120 : decode cX8_land 120 = .ok (.getfield 30, 3) := by decide +kernel
theorem dX8_land_123 : decode cX8_land 123 = .ok (.bipush 10, 2) := by decide +kernel
theorem dX8_land_125 : decode cX8_land 125 = .ok (.putfield 104, 3) := by decide +kernel
theorem dX8_land_128 : decode cX8_land 128 = .ok (.aload_n 0, 1) := by decide +kernel
theorem dX8_land_129 : decode cX8_land 129 = .ok (.getfield 14, 3) := by decide +kernel
theorem dX8_land_132 : decode cX8_land 132 = .ok (.getfield 107, 3) := by decide +kernel
theorem dX8_land_135 : decode cX8_land 135 = .ok (.ireturn, 1) := by decide +kernel
theorem dX8_ofCell_0 : decode cX8_ofCell 0 = .ok (.aload_n 0, 1) := by decide +kernel
theorem dX8_ofCell_1 : decode cX8_ofCell 1 = .ok (.iload_n 1, 1) := by decide +kernel
theorem dX8_ofCell_2 : decode cX8_ofCell 2 = .ok (.invokevirtual 110, 3) := by decide +kernel
theorem dX8_ofCell_5 : decode cX8_ofCell 5 = .ok (.ifCond .ne 5, 3) := by decide +kernel
theorem dX8_ofCell_8 : decode cX8_ofCell 8 = .ok (.iconst (-1), 1) := by decide +kernel
theorem dX8_ofCell_9 : decode cX8_ofCell 9 = .ok (.ireturn, 1) := by decide +kernel
theorem dX8_ofCell_10 : decode cX8_ofCell 10 = .ok (.iload_n 2, 1) := by decide +kernel
theorem dX8_ofCell_11 : decode cX8_ofCell 11 = .ok (.tableswitch 74 0 3 #[29, 39, 48, 65], 29) := by decide +kernel
theorem dX8_ofCell_40 : decode cX8_ofCell 40 = .ok (.aload_n 0, 1) := by decide +kernel
theorem dX8_ofCell_41 : decode cX8_ofCell 41 = .ok (.getfield 14, 3) := by decide +kernel
theorem dX8_ofCell_44 : decode cX8_ofCell 44 = .ok (.getfield 113, 3) := by decide +kernel
theorem dX8_ofCell_47 : decode cX8_ofCell 47 = .ok (.iload_n 1, 1) := by decide +kernel
theorem dX8_ofCell_48 : decode cX8_ofCell 48 = .ok (.iaload, 1) := by decide +kernel
theorem dX8_ofCell_49 : decode cX8_ofCell 49 = .ok (.ireturn, 1) := by decide +kernel
theorem dX8_ofCell_50 : decode cX8_ofCell 50 = .ok (.aload_n 0, 1) := by decide +kernel
theorem dX8_ofCell_51 : decode cX8_ofCell 51 = .ok (.getfield 14, 3) := by decide +kernel
theorem dX8_ofCell_54 : decode cX8_ofCell 54 = .ok (.iload_n 1, 1) := by decide +kernel
theorem dX8_ofCell_55 : decode cX8_ofCell 55 = .ok (.invokevirtual 116, 3) := by decide +kernel
theorem dX8_ofCell_58 : decode cX8_ofCell 58 = .ok (.ireturn, 1) := by decide +kernel
theorem dX8_ofCell_59 : decode cX8_ofCell 59 = .ok (.aload_n 0, 1) := by decide +kernel
theorem dX8_ofCell_60 : decode cX8_ofCell 60 = .ok (.getfield 14, 3) := by decide +kernel
theorem dX8_ofCell_63 : decode cX8_ofCell 63 = .ok (.iload_n 1, 1) := by decide +kernel
theorem dX8_ofCell_64 : decode cX8_ofCell 64 = .ok (.invokevirtual 120, 3) := by decide +kernel
theorem dX8_ofCell_67 : decode cX8_ofCell 67 = .ok (.ifCond .eq 7, 3) := by decide +kernel
theorem dX8_ofCell_70 : decode cX8_ofCell 70 = .ok (.iconst 1, 1) := by decide +kernel
theorem dX8_ofCell_71 : decode cX8_ofCell 71 = .ok (.goto 4, 3) := by decide +kernel
theorem dX8_ofCell_74 : decode cX8_ofCell 74 = .ok (.iconst 0, 1) := by decide +kernel
theorem dX8_ofCell_75 : decode cX8_ofCell 75 = .ok (.ireturn, 1) := by decide +kernel
theorem dX8_ofCell_76 : decode cX8_ofCell 76 = .ok (.aload_n 0, 1) := by decide +kernel
theorem dX8_ofCell_77 : decode cX8_ofCell 77 = .ok (.getfield 21, 3) := by decide +kernel
theorem dX8_ofCell_80 : decode cX8_ofCell 80 = .ok (.iload_n 1, 1) := by decide +kernel
theorem dX8_ofCell_81 : decode cX8_ofCell 81 = .ok (.invokevirtual 123, 3) := by decide +kernel
theorem dX8_ofCell_84 : decode cX8_ofCell 84 = .ok (.ireturn, 1) := by decide +kernel
theorem dX8_ofCell_85 : decode cX8_ofCell 85 = .ok (.bipush (-2), 2) := by decide +kernel
theorem dX8_ofCell_87 : decode cX8_ofCell 87 = .ok (.ireturn, 1) := by decide +kernel
theorem dX8_plant_0 : decode cX8_plant 0 = .ok (.aload_n 0, 1) := by decide +kernel
theorem dX8_plant_1 : decode cX8_plant 1 = .ok (.iload_n 1, 1) := by decide +kernel
theorem dX8_plant_2 : decode cX8_plant 2 = .ok (.invokevirtual 110, 3) := by decide +kernel
theorem dX8_plant_5 : decode cX8_plant 5 = .ok (.ifCond .ne 5, 3) := by decide +kernel
theorem dX8_plant_8 : decode cX8_plant 8 = .ok (.iconst (-1), 1) := by decide +kernel
theorem dX8_plant_9 : decode cX8_plant 9 = .ok (.ireturn, 1) := by decide +kernel
theorem dX8_plant_10 : decode cX8_plant 10 = .ok (.aload_n 0, 1) := by decide +kernel
theorem dX8_plant_11 : decode cX8_plant 11 = .ok (.getfield 14, 3) := by decide +kernel
theorem dX8_plant_14 : decode cX8_plant 14 = .ok (.iload_n 1, 1) := by decide +kernel
theorem dX8_plant_15 : decode cX8_plant 15 = .ok (.invokevirtual 120, 3) := by decide +kernel
theorem dX8_plant_18 : decode cX8_plant 18 = .ok (.iload_n 2, 1) := by decide +kernel
theorem dX8_plant_19 : decode cX8_plant 19 = .ok (.if_icmp .ne 5, 3) := by decide +kernel
theorem dX8_plant_22 : decode cX8_plant 22 = .ok (.iconst 0, 1) := by decide +kernel
theorem dX8_plant_23 : decode cX8_plant 23 = .ok (.ireturn, 1) := by decide +kernel
theorem dX8_plant_24 : decode cX8_plant 24 = .ok (.aload_n 0, 1) := by decide +kernel
theorem dX8_plant_25 : decode cX8_plant 25 = .ok (.getfield 14, 3) := by decide +kernel
theorem dX8_plant_28 : decode cX8_plant 28 = .ok (.dup, 1) := by decide +kernel
theorem dX8_plant_29 : decode cX8_plant 29 = .ok (.getfield 126, 3) := by decide +kernel
theorem dX8_plant_32 : decode cX8_plant 32 = .ok (.iconst 1, 1) := by decide +kernel
theorem dX8_plant_33 : decode cX8_plant 33 = .ok (.iload_n 1, 1) := by decide +kernel
theorem dX8_plant_34 : decode cX8_plant 34 = .ok (.ishl, 1) := by decide +kernel
theorem dX8_plant_35 : decode cX8_plant 35 = .ok (.ixor, 1) := by decide +kernel
theorem dX8_plant_36 : decode cX8_plant 36 = .ok (.putfield 126, 3) := by decide +kernel
theorem dX8_plant_39 : decode cX8_plant 39 = .ok (.aload_n 0, 1) := by decide +kernel
theorem dX8_plant_40 : decode cX8_plant 40 = .ok (.getfield 30, 3) := by decide +kernel
theorem dX8_plant_43 : decode cX8_plant 43 = .ok (.invokevirtual 129, 3) := by decide +kernel
theorem dX8_plant_46 : decode cX8_plant 46 = .ok (.iconst 1, 1) := by decide +kernel
theorem dX8_plant_47 : decode cX8_plant 47 = .ok (.ireturn, 1) := by decide +kernel
theorem dX8_ear_0 : decode cX8_ear 0 = .ok (.iload_n 1, 1) := by decide +kernel
theorem dX8_ear_1 : decode cX8_ear 1 = .ok (.ifCond .lt 9, 3) := by decide +kernel
theorem dX8_ear_4 : decode cX8_ear 4 = .ok (.iload_n 1, 1) := by decide +kernel
theorem dX8_ear_5 : decode cX8_ear 5 = .ok (.bipush 99, 2) := by decide +kernel
theorem dX8_ear_7 : decode cX8_ear 7 = .ok (.if_icmp .le 6, 3) := by decide +kernel
theorem dX8_ear_10 : decode cX8_ear 10 = .ok (.bipush (-2), 2) := by decide +kernel
theorem dX8_ear_12 : decode cX8_ear 12 = .ok (.ireturn, 1) := by decide +kernel
theorem dX8_ear_13 : decode cX8_ear 13 = .ok (.aload_n 0, 1) := by decide +kernel
theorem dX8_ear_14 : decode cX8_ear 14 = .ok (.getfield 14, 3) := by decide +kernel
theorem dX8_ear_17 : decode cX8_ear 17 = .ok (.getfield 107, 3) := by decide +kernel
theorem dX8_ear_20 : decode cX8_ear 20 = .ok (.ifCond .ne 6, 3) := by decide +kernel
theorem dX8_ear_23 : decode cX8_ear 23 = .ok (.bipush (-3), 2) := by decide +kernel
theorem dX8_ear_25 : decode cX8_ear 25 = .ok (.ireturn, 1) := by decide +kernel
theorem dX8_ear_26 : decode cX8_ear 26 = .ok (.aload_n 0, 1) := by decide +kernel
theorem dX8_ear_27 : decode cX8_ear 27 = .ok (.getfield 30, 3) := by decide +kernel
theorem dX8_ear_30 : decode cX8_ear 30 = .ok (.getfield 104, 3) := by decide +kernel
theorem dX8_ear_33 : decode cX8_ear 33 = .ok (.istore_n 2, 1) := by decide +kernel
theorem dX8_ear_34 : decode cX8_ear 34 = .ok (.aload_n 0, 1) := by decide +kernel
theorem dX8_ear_35 : decode cX8_ear 35 = .ok (.getfield 30, 3) := by decide +kernel
theorem dX8_ear_38 : decode cX8_ear 38 = .ok (.iload_n 1, 1) := by decide +kernel
theorem dX8_ear_39 : decode cX8_ear 39 = .ok (.putfield 104, 3) := by decide +kernel
theorem dX8_ear_42 : decode cX8_ear 42 = .ok (.iload_n 2, 1) := by decide +kernel
theorem dX8_ear_43 : decode cX8_ear 43 = .ok (.ireturn, 1) := by decide +kernel
theorem dX8_bell_0 : decode cX8_bell 0 = .ok (.aload_n 0, 1) := by decide +kernel
theorem dX8_bell_1 : decode cX8_bell 1 = .ok (.iload_n 2, 1) := by decide +kernel
theorem dX8_bell_2 : decode cX8_bell 2 = .ok (.invokevirtual 110, 3) := by decide +kernel
theorem dX8_bell_5 : decode cX8_bell 5 = .ok (.ifCond .ne 5, 3) := by decide +kernel
theorem dX8_bell_8 : decode cX8_bell 8 = .ok (.iconst (-1), 1) := by decide +kernel
theorem dX8_bell_9 : decode cX8_bell 9 = .ok (.ireturn, 1) := by decide +kernel
theorem dX8_bell_10 : decode cX8_bell 10 = .ok (.iload_n 1, 1) := by decide +kernel
theorem dX8_bell_11 : decode cX8_bell 11 = .ok (.invokestatic 132, 3) := by decide +kernel
theorem dX8_bell_14 : decode cX8_bell 14 = .ok (.ifCond .eq 10, 3) := by decide +kernel
theorem dX8_bell_17 : decode cX8_bell 17 = .ok (.iload_n 3, 1) := by decide +kernel
theorem dX8_bell_18 : decode cX8_bell 18 = .ok (.invokestatic 135, 3) := by decide +kernel
theorem dX8_bell_21 : decode cX8_bell 21 = .ok (.ifCond .ne 6, 3) := by decide +kernel
theorem dX8_bell_24 : decode cX8_bell 24 = .ok (.bipush (-2), 2) := by decide +kernel
theorem dX8_bell_26 : decode cX8_bell 26 = .ok (.ireturn, 1) := by decide +kernel
theorem dX8_bell_27 : decode cX8_bell 27 = .ok (.aload_n 0, 1) := by decide +kernel
theorem dX8_bell_28 : decode cX8_bell 28 = .ok (.getfield 21, 3) := by decide +kernel
theorem dX8_bell_31 : decode cX8_bell 31 = .ok (.getfield 100, 3) := by decide +kernel
theorem dX8_bell_34 : decode cX8_bell 34 = .ok (.bipush 6, 2) := by decide +kernel
theorem dX8_bell_36 : decode cX8_bell 36 = .ok (.if_icmp .lt 6, 3) := by decide +kernel
theorem dX8_bell_39 : decode cX8_bell 39 = .ok (.bipush (-4), 2) := by decide +kernel
theorem dX8_bell_41 : decode cX8_bell 41 = .ok (.ireturn, 1) := by decide +kernel
theorem dX8_bell_42 : decode cX8_bell 42 = .ok (.aload_n 0, 1) := by decide +kernel
theorem dX8_bell_43 : decode cX8_bell 43 = .ok (.getfield 21, 3) := by decide +kernel
theorem dX8_bell_46 : decode cX8_bell 46 = .ok (.iload_n 1, 1) := by decide +kernel
theorem dX8_bell_47 : decode cX8_bell 47 = .ok (.iload_n 2, 1) := by decide +kernel
theorem dX8_bell_48 : decode cX8_bell 48 = .ok (.iload_n 3, 1) := by decide +kernel
theorem dX8_bell_49 : decode cX8_bell 49 = .ok (.invokevirtual 138, 3) := by decide +kernel
theorem dX8_bell_52 : decode cX8_bell 52 = .ok (.istore 4, 2) := by decide +kernel
theorem dX8_bell_54 : decode cX8_bell 54 = .ok (.aload_n 0, 1) := by decide +kernel
theorem dX8_bell_55 : decode cX8_bell 55 = .ok (.getfield 30, 3) := by decide +kernel
theorem dX8_bell_58 : decode cX8_bell 58 = .ok (.iload 4, 2) := by decide +kernel
theorem dX8_bell_60 : decode cX8_bell 60 = .ok (.invokevirtual 141, 3) := by decide +kernel
theorem dX8_bell_63 : decode cX8_bell 63 = .ok (.iload 4, 2) := by decide +kernel
theorem dX8_bell_65 : decode cX8_bell 65 = .ok (.ireturn, 1) := by decide +kernel
theorem dX8_ofBell_0 : decode cX8_ofBell 0 = .ok (.aload_n 0, 1) := by decide +kernel
theorem dX8_ofBell_1 : decode cX8_ofBell 1 = .ok (.iload_n 1, 1) := by decide +kernel
theorem dX8_ofBell_2 : decode cX8_ofBell 2 = .ok (.invokevirtual 145, 3) := by decide +kernel
theorem dX8_ofBell_5 : decode cX8_ofBell 5 = .ok (.ifCond .ne 5, 3) := by decide +kernel
theorem dX8_ofBell_8 : decode cX8_ofBell 8 = .ok (.iconst (-1), 1) := by decide +kernel
theorem dX8_ofBell_9 : decode cX8_ofBell 9 = .ok (.ireturn, 1) := by decide +kernel
theorem dX8_ofBell_10 : decode cX8_ofBell 10 = .ok (.iload_n 2, 1) := by decide +kernel
theorem dX8_ofBell_11 : decode cX8_ofBell 11 = .ok (.tableswitch 55 0 2 #[25, 35, 45], 25) := by decide +kernel
theorem dX8_ofBell_36 : decode cX8_ofBell 36 = .ok (.aload_n 0, 1) := by decide +kernel
theorem dX8_ofBell_37 : decode cX8_ofBell 37 = .ok (.getfield 21, 3) := by decide +kernel
theorem dX8_ofBell_40 : decode cX8_ofBell 40 = .ok (.getfield 148, 3) := by decide +kernel
theorem dX8_ofBell_43 : decode cX8_ofBell 43 = .ok (.iload_n 1, 1) := by decide +kernel
theorem dX8_ofBell_44 : decode cX8_ofBell 44 = .ok (.iaload, 1) := by decide +kernel
theorem dX8_ofBell_45 : decode cX8_ofBell 45 = .ok (.ireturn, 1) := by decide +kernel
theorem dX8_ofBell_46 : decode cX8_ofBell 46 = .ok (.aload_n 0, 1) := by decide +kernel
theorem dX8_ofBell_47 : decode cX8_ofBell 47 = .ok (.getfield 21, 3) := by decide +kernel
theorem dX8_ofBell_50 : decode cX8_ofBell 50 = .ok (.getfield 151, 3) := by decide +kernel
theorem dX8_ofBell_53 : decode cX8_ofBell 53 = .ok (.iload_n 1, 1) := by decide +kernel
theorem dX8_ofBell_54 : decode cX8_ofBell 54 = .ok (.iaload, 1) := by decide +kernel
theorem dX8_ofBell_55 : decode cX8_ofBell 55 = .ok (.ireturn, 1) := by decide +kernel
theorem dX8_ofBell_56 : decode cX8_ofBell 56 = .ok (.aload_n 0, 1) := by decide +kernel
theorem dX8_ofBell_57 : decode cX8_ofBell 57 = .ok (.getfield 21, 3) := by decide +kernel
theorem dX8_ofBell_60 : decode cX8_ofBell 60 = .ok (.getfield 154, 3) := by decide +kernel
theorem dX8_ofBell_63 : decode cX8_ofBell 63 = .ok (.iload_n 1, 1) := by decide +kernel
theorem dX8_ofBell_64 : decode cX8_ofBell 64 = .ok (.iaload, 1) := by decide +kernel
theorem dX8_ofBell_65 : decode cX8_ofBell 65 = .ok (.ireturn, 1) := by decide +kernel
theorem dX8_ofBell_66 : decode cX8_ofBell 66 = .ok (.bipush (-2), 2) := by decide +kernel
theorem dX8_ofBell_68 : decode cX8_ofBell 68 = .ok (.ireturn, 1) := by decide +kernel
theorem dX8_recast_0 : decode cX8_recast 0 = .ok (.aload_n 0, 1) := by decide +kernel
theorem dX8_recast_1 : decode cX8_recast 1 = .ok (.iload_n 1, 1) := by decide +kernel
theorem dX8_recast_2 : decode cX8_recast 2 = .ok (.invokevirtual 145, 3) := by decide +kernel
theorem dX8_recast_5 : decode cX8_recast 5 = .ok (.ifCond .ne 5, 3) := by decide +kernel
theorem dX8_recast_8 : decode cX8_recast 8 = .ok (.iconst (-1), 1) := by decide +kernel
theorem dX8_recast_9 : decode cX8_recast 9 = .ok (.ireturn, 1) := by decide +kernel
theorem dX8_recast_10 : decode cX8_recast 10 = .ok (.iload_n 2, 1) := by decide +kernel
theorem dX8_recast_11 : decode cX8_recast 11 = .ok (.invokestatic 135, 3) := by decide +kernel
theorem dX8_recast_14 : decode cX8_recast 14 = .ok (.ifCond .ne 6, 3) := by decide +kernel
theorem dX8_recast_17 : decode cX8_recast 17 = .ok (.bipush (-2), 2) := by decide +kernel
theorem dX8_recast_19 : decode cX8_recast 19 = .ok (.ireturn, 1) := by decide +kernel
theorem dX8_recast_20 : decode cX8_recast 20 = .ok (.aload_n 0, 1) := by decide +kernel
theorem dX8_recast_21 : decode cX8_recast 21 = .ok (.getfield 21, 3) := by decide +kernel
theorem dX8_recast_24 : decode cX8_recast 24 = .ok (.getfield 154, 3) := by decide +kernel
theorem dX8_recast_27 : decode cX8_recast 27 = .ok (.iload_n 1, 1) := by decide +kernel
theorem dX8_recast_28 : decode cX8_recast 28 = .ok (.iaload, 1) := by decide +kernel
theorem dX8_recast_29 : decode cX8_recast 29 = .ok (.istore_n 3, 1) := by decide +kernel
theorem dX8_recast_30 : decode cX8_recast 30 = .ok (.aload_n 0, 1) := by decide +kernel
theorem dX8_recast_31 : decode cX8_recast 31 = .ok (.getfield 21, 3) := by decide +kernel
theorem dX8_recast_34 : decode cX8_recast 34 = .ok (.getfield 154, 3) := by decide +kernel
theorem dX8_recast_37 : decode cX8_recast 37 = .ok (.iload_n 1, 1) := by decide +kernel
theorem dX8_recast_38 : decode cX8_recast 38 = .ok (.iload_n 2, 1) := by decide +kernel
theorem dX8_recast_39 : decode cX8_recast 39 = .ok (.iastore, 1) := by decide +kernel
theorem dX8_recast_40 : decode cX8_recast 40 = .ok (.iload_n 3, 1) := by decide +kernel
theorem dX8_recast_41 : decode cX8_recast 41 = .ok (.ireturn, 1) := by decide +kernel
theorem dX8_loud_0 : decode cX8_loud 0 = .ok (.aload_n 0, 1) := by decide +kernel
theorem dX8_loud_1 : decode cX8_loud 1 = .ok (.iload_n 1, 1) := by decide +kernel
theorem dX8_loud_2 : decode cX8_loud 2 = .ok (.invokevirtual 145, 3) := by decide +kernel
theorem dX8_loud_5 : decode cX8_loud 5 = .ok (.ifCond .eq 26, 3) := by decide +kernel
theorem dX8_loud_8 : decode cX8_loud 8 = .ok (.aload_n 0, 1) := by decide +kernel
theorem dX8_loud_9 : decode cX8_loud 9 = .ok (.iload_n 2, 1) := by decide +kernel
theorem dX8_loud_10 : decode cX8_loud 10 = .ok (.invokevirtual 110, 3) := by decide +kernel
theorem dX8_loud_13 : decode cX8_loud 13 = .ok (.ifCond .eq 18, 3) := by decide +kernel
theorem dX8_loud_16 : decode cX8_loud 16 = .ok (.iload_n 3, 1) := by decide +kernel
theorem dX8_loud_17 : decode cX8_loud 17 = .ok (.invokestatic 157, 3) := by decide +kernel
theorem dX8_loud_20 : decode cX8_loud 20 = .ok (.ifCond .eq 11, 3) := by decide +kernel
theorem dX8_loud_23 : decode cX8_loud 23 = .ok (.iload 4, 2) := by decide +kernel
theorem dX8_loud_25 : decode cX8_loud 25 = .ok (.invokestatic 160, 3) := by decide +kernel
theorem dX8_loud_28 : decode cX8_loud 28 = .ok (.ifCond .ne 7, 3) := by decide +kernel
theorem dX8_loud_31 : decode cX8_loud 31 = .ok (.ldc2_w 163, 3) := by decide +kernel
theorem dX8_loud_34 : decode cX8_loud 34 = .ok (.lreturn, 1) := by decide +kernel
theorem dX8_loud_35 : decode cX8_loud 35 = .ok (.aload_n 0, 1) := by decide +kernel
theorem dX8_loud_36 : decode cX8_loud 36 = .ok (.getfield 21, 3) := by decide +kernel
theorem dX8_loud_39 : decode cX8_loud 39 = .ok (.getfield 154, 3) := by decide +kernel
theorem dX8_loud_42 : decode cX8_loud 42 = .ok (.iload_n 1, 1) := by decide +kernel
theorem dX8_loud_43 : decode cX8_loud 43 = .ok (.iaload, 1) := by decide +kernel
theorem dX8_loud_44 : decode cX8_loud 44 = .ok (.i2l, 1) := by decide +kernel
theorem dX8_loud_45 : decode cX8_loud 45 = .ok (.aload_n 0, 1) := by decide +kernel
theorem dX8_loud_46 : decode cX8_loud 46 = .ok (.getfield 30, 3) := by decide +kernel
theorem dX8_loud_49 : decode cX8_loud 49 = .ok (.iload_n 1, 1) := by decide +kernel
theorem dX8_loud_50 : decode cX8_loud 50 = .ok (.iload_n 2, 1) := by decide +kernel
theorem dX8_loud_51 : decode cX8_loud 51 = .ok (.iload_n 3, 1) := by decide +kernel
theorem dX8_loud_52 : decode cX8_loud 52 = .ok (.invokevirtual 165, 3) := by decide +kernel
theorem dX8_loud_55 : decode cX8_loud 55 = .ok (.lmul, 1) := by decide +kernel
theorem dX8_loud_56 : decode cX8_loud 56 = .ok (.iload_n 3, 1) := by decide +kernel
theorem dX8_loud_57 : decode cX8_loud 57 = .ok (.invokestatic 169, 3) := by decide +kernel
theorem dX8_loud_60 : decode cX8_loud 60 = .ok (.iload 4, 2) := by decide +kernel
theorem dX8_loud_62 : decode cX8_loud 62 = .ok (.invokestatic 173, 3) := by decide +kernel
theorem dX8_loud_65 : decode cX8_loud 65 = .ok (.lreturn, 1) := by decide +kernel
theorem dX8_whose_0 : decode cX8_whose 0 = .ok (.aload_n 0, 1) := by decide +kernel
theorem dX8_whose_1 : decode cX8_whose 1 = .ok (.iload_n 1, 1) := by decide +kernel
theorem dX8_whose_2 : decode cX8_whose 2 = .ok (.invokevirtual 110, 3) := by decide +kernel
theorem dX8_whose_5 : decode cX8_whose 5 = .ok (.ifCond .ne 5, 3) := by decide +kernel
theorem dX8_whose_8 : decode cX8_whose 8 = .ok (.iconst (-1), 1) := by decide +kernel
theorem dX8_whose_9 : decode cX8_whose 9 = .ok (.ireturn, 1) := by decide +kernel
theorem dX8_whose_10 : decode cX8_whose 10 = .ok (.iload_n 2, 1) := by decide +kernel
theorem dX8_whose_11 : decode cX8_whose 11 = .ok (.invokestatic 157, 3) := by decide +kernel
theorem dX8_whose_14 : decode cX8_whose 14 = .ok (.ifCond .ne 6, 3) := by decide +kernel
theorem dX8_whose_17 : decode cX8_whose 17 = .ok (.bipush (-2), 2) := by decide +kernel
theorem dX8_whose_19 : decode cX8_whose 19 = .ok (.ireturn, 1) := by decide +kernel
theorem dX8_whose_20 : decode cX8_whose 20 = .ok (.aload_n 0, 1) := by decide +kernel
theorem dX8_whose_21 : decode cX8_whose 21 = .ok (.getfield 30, 3) := by decide +kernel
theorem dX8_whose_24 : decode cX8_whose 24 = .ok (.iload_n 2, 1) := by decide +kernel
theorem dX8_whose_25 : decode cX8_whose 25 = .ok (.invokevirtual 177, 3) := by decide +kernel
theorem dX8_whose_28 : decode cX8_whose 28 = .ok (.aload_n 0, 1) := by decide +kernel
theorem dX8_whose_29 : decode cX8_whose 29 = .ok (.getfield 30, 3) := by decide +kernel
theorem dX8_whose_32 : decode cX8_whose 32 = .ok (.iload_n 1, 1) := by decide +kernel
theorem dX8_whose_33 : decode cX8_whose 33 = .ok (.invokevirtual 180, 3) := by decide +kernel
theorem dX8_whose_36 : decode cX8_whose 36 = .ok (.istore_n 3, 1) := by decide +kernel
theorem dX8_whose_37 : decode cX8_whose 37 = .ok (.iconst 0, 1) := by decide +kernel
theorem dX8_whose_38 : decode cX8_whose 38 = .ok (.istore 4, 2) := by decide +kernel
theorem dX8_whose_40 : decode cX8_whose 40 = .ok (.iload 4, 2) := by decide +kernel
theorem dX8_whose_42 : decode cX8_whose 42 = .ok (.aload_n 0, 1) := by decide +kernel
theorem dX8_whose_43 : decode cX8_whose 43 = .ok (.getfield 21, 3) := by decide +kernel
theorem dX8_whose_46 : decode cX8_whose 46 = .ok (.getfield 100, 3) := by decide +kernel
theorem dX8_whose_49 : decode cX8_whose 49 = .ok (.if_icmp .ge 20, 3) := by decide +kernel
theorem dX8_whose_52 : decode cX8_whose 52 = .ok (.iload_n 3, 1) := by decide +kernel
theorem dX8_whose_53 : decode cX8_whose 53 = .ok (.iconst 1, 1) := by decide +kernel
theorem dX8_whose_54 : decode cX8_whose 54 = .ok (.iload 4, 2) := by decide +kernel
theorem dX8_whose_56 : decode cX8_whose 56 = .ok (.ishl, 1) := by decide +kernel
theorem dX8_whose_57 : decode cX8_whose 57 = .ok (.if_icmp .ne 6, 3) := by decide +kernel
theorem dX8_whose_60 : decode cX8_whose 60 = .ok (.iload 4, 2) := by decide +kernel
theorem dX8_whose_62 : decode cX8_whose 62 = .ok (.ireturn, 1) := by decide +kernel
theorem dX8_whose_63 : decode cX8_whose 63 = .ok (.iinc 4 1, 3) := by decide +kernel
theorem dX8_whose_66 : decode cX8_whose 66 = .ok (.goto (-26), 3) := by decide +kernel
theorem dX8_whose_69 : decode cX8_whose 69 = .ok (.iload_n 3, 1) := by decide +kernel
theorem dX8_whose_70 : decode cX8_whose 70 = .ok (.ifCond .ne 8, 3) := by decide +kernel
theorem dX8_whose_73 : decode cX8_whose 73 = .ok (.bipush (-6), 2) := by decide +kernel
theorem dX8_whose_75 : decode cX8_whose 75 = .ok (.goto 5, 3) := by decide +kernel
theorem dX8_whose_78 : decode cX8_whose 78 = .ok (.bipush (-5), 2) := by decide +kernel
theorem dX8_whose_80 : decode cX8_whose 80 = .ok (.ireturn, 1) := by decide +kernel
theorem dX8_reach_0 : decode cX8_reach 0 = .ok (.aload_n 0, 1) := by decide +kernel
theorem dX8_reach_1 : decode cX8_reach 1 = .ok (.iload_n 1, 1) := by decide +kernel
theorem dX8_reach_2 : decode cX8_reach 2 = .ok (.invokevirtual 145, 3) := by decide +kernel
theorem dX8_reach_5 : decode cX8_reach 5 = .ok (.ifCond .ne 5, 3) := by decide +kernel
theorem dX8_reach_8 : decode cX8_reach 8 = .ok (.iconst (-1), 1) := by decide +kernel
theorem dX8_reach_9 : decode cX8_reach 9 = .ok (.ireturn, 1) := by decide +kernel
theorem dX8_reach_10 : decode cX8_reach 10 = .ok (.iload_n 2, 1) := by decide +kernel
theorem dX8_reach_11 : decode cX8_reach 11 = .ok (.invokestatic 157, 3) := by decide +kernel
theorem dX8_reach_14 : decode cX8_reach 14 = .ok (.ifCond .ne 6, 3) := by decide +kernel
theorem dX8_reach_17 : decode cX8_reach 17 = .ok (.bipush (-2), 2) := by decide +kernel
theorem dX8_reach_19 : decode cX8_reach 19 = .ok (.ireturn, 1) := by decide +kernel
theorem dX8_reach_20 : decode cX8_reach 20 = .ok (.aload_n 0, 1) := by decide +kernel
theorem dX8_reach_21 : decode cX8_reach 21 = .ok (.getfield 30, 3) := by decide +kernel
theorem dX8_reach_24 : decode cX8_reach 24 = .ok (.iload_n 2, 1) := by decide +kernel
theorem dX8_reach_25 : decode cX8_reach 25 = .ok (.invokevirtual 177, 3) := by decide +kernel
theorem dX8_reach_28 : decode cX8_reach 28 = .ok (.iconst 0, 1) := by decide +kernel
theorem dX8_reach_29 : decode cX8_reach 29 = .ok (.istore_n 3, 1) := by decide +kernel
theorem dX8_reach_30 : decode cX8_reach 30 = .ok (.iconst 0, 1) := by decide +kernel
theorem dX8_reach_31 : decode cX8_reach 31 = .ok (.istore 4, 2) := by decide +kernel
theorem dX8_reach_33 : decode cX8_reach 33 = .ok (.iload 4, 2) := by decide +kernel
theorem dX8_reach_35 : decode cX8_reach 35 = .ok (.aload_n 0, 1) := by decide +kernel
theorem dX8_reach_36 : decode cX8_reach 36 = .ok (.getfield 14, 3) := by decide +kernel
theorem dX8_reach_39 : decode cX8_reach 39 = .ok (.getfield 107, 3) := by decide +kernel
theorem dX8_reach_42 : decode cX8_reach 42 = .ok (.if_icmp .ge 28, 3) := by decide +kernel
theorem dX8_reach_45 : decode cX8_reach 45 = .ok (.iload_n 3, 1) := by decide +kernel
theorem dX8_reach_46 : decode cX8_reach 46 = .ok (.aload_n 0, 1) := by decide +kernel
theorem dX8_reach_47 : decode cX8_reach 47 = .ok (.getfield 30, 3) := by decide +kernel
theorem dX8_reach_50 : decode cX8_reach 50 = .ok (.iload 4, 2) := by decide +kernel
theorem dX8_reach_52 : decode cX8_reach 52 = .ok (.invokevirtual 180, 3) := by decide +kernel
theorem dX8_reach_55 : decode cX8_reach 55 = .ok (.iload_n 1, 1) := by decide +kernel
theorem dX8_reach_56 : decode cX8_reach 56 = .ok (.ishr, 1) := by decide +kernel
theorem dX8_reach_57 : decode cX8_reach 57 = .ok (.iconst 1, 1) := by decide +kernel
theorem dX8_reach_58 : decode cX8_reach 58 = .ok (.iand, 1) := by decide +kernel
theorem dX8_reach_59 : decode cX8_reach 59 = .ok (.iload 4, 2) := by decide +kernel
theorem dX8_reach_61 : decode cX8_reach 61 = .ok (.ishl, 1) := by decide +kernel
theorem dX8_reach_62 : decode cX8_reach 62 = .ok (.ior, 1) := by decide +kernel
theorem dX8_reach_63 : decode cX8_reach 63 = .ok (.istore_n 3, 1) := by decide +kernel
theorem dX8_reach_64 : decode cX8_reach 64 = .ok (.iinc 4 1, 3) := by decide +kernel
theorem dX8_reach_67 : decode cX8_reach 67 = .ok (.goto (-34), 3) := by decide +kernel
theorem dX8_reach_70 : decode cX8_reach 70 = .ok (.iload_n 3, 1) := by decide +kernel
theorem dX8_reach_71 : decode cX8_reach 71 = .ok (.ireturn, 1) := by decide +kernel
theorem dX8_tithes_0 : decode cX8_tithes 0 = .ok (.aload_n 0, 1) := by decide +kernel
theorem dX8_tithes_1 : decode cX8_tithes 1 = .ok (.iconst 0, 1) := by decide +kernel
theorem dX8_tithes_2 : decode cX8_tithes 2 = .ok (.putfield 73, 3) := by decide +kernel
theorem dX8_tithes_5 : decode cX8_tithes 5 = .ok (.aload_n 0, 1) := by decide +kernel
theorem dX8_tithes_6 : decode cX8_tithes 6 = .ok (.iload_n 1, 1) := by decide +kernel
theorem dX8_tithes_7 : decode cX8_tithes 7 = .ok (.invokevirtual 145, 3) := by decide +kernel
theorem dX8_tithes_10 : decode cX8_tithes 10 = .ok (.ifCond .eq 17, 3) := by decide +kernel
theorem dX8_tithes_13 : decode cX8_tithes 13 = .ok (.iload_n 2, 1) := by decide +kernel
theorem dX8_tithes_14 : decode cX8_tithes 14 = .ok (.invokestatic 77, 3) := by decide +kernel
theorem dX8_tithes_17 : decode cX8_tithes 17 = .ok (.ifCond .eq 10, 3) := by decide +kernel
theorem dX8_tithes_20 : decode cX8_tithes 20 = .ok (.iload_n 3, 1) := by decide +kernel
theorem dX8_tithes_21 : decode cX8_tithes 21 = .ok (.invokestatic 81, 3) := by decide +kernel
theorem dX8_tithes_24 : decode cX8_tithes 24 = .ok (.ifCond .ne 7, 3) := by decide +kernel
theorem dX8_tithes_27 : decode cX8_tithes 27 = .ok (.ldc2_w 163, 3) := by decide +kernel
theorem dX8_tithes_30 : decode cX8_tithes 30 = .ok (.lreturn, 1) := by decide +kernel
theorem dX8_tithes_31 : decode cX8_tithes 31 = .ok (.aload_n 0, 1) := by decide +kernel
theorem dX8_tithes_32 : decode cX8_tithes 32 = .ok (.getfield 68, 3) := by decide +kernel
theorem dX8_tithes_35 : decode cX8_tithes 35 = .ok (.iload_n 2, 1) := by decide +kernel
theorem dX8_tithes_36 : decode cX8_tithes 36 = .ok (.aaload, 1) := by decide +kernel
theorem dX8_tithes_37 : decode cX8_tithes 37 = .ok (.astore 7, 2) := by decide +kernel
theorem dX8_tithes_39 : decode cX8_tithes 39 = .ok (.aload_n 0, 1) := by decide +kernel
theorem dX8_tithes_40 : decode cX8_tithes 40 = .ok (.aload 7, 2) := by decide +kernel
theorem dX8_tithes_42 : decode cX8_tithes 42 = .ok (.iload_n 3, 1) := by decide +kernel
theorem dX8_tithes_43 : decode cX8_tithes 43 = .ok (.iload 4, 2) := by decide +kernel
theorem dX8_tithes_45 : decode cX8_tithes 45 = .ok (.iload 5, 2) := by decide +kernel
theorem dX8_tithes_47 : decode cX8_tithes 47 = .ok (.invokevirtual 84, 3) := by decide +kernel
theorem dX8_tithes_50 : decode cX8_tithes 50 = .ok (.putfield 73, 3) := by decide +kernel
theorem dX8_tithes_53 : decode cX8_tithes 53 = .ok (.aload_n 0, 1) := by decide +kernel
theorem dX8_tithes_54 : decode cX8_tithes 54 = .ok (.getfield 73, 3) := by decide +kernel
theorem dX8_tithes_57 : decode cX8_tithes 57 = .ok (.ifCond .ne 11, 3) := by decide +kernel
theorem dX8_tithes_60 : decode cX8_tithes 60 = .ok (.iload 6, 2) := by decide +kernel
theorem dX8_tithes_62 : decode cX8_tithes 62 = .ok (.invokestatic 160, 3) := by decide +kernel
theorem dX8_tithes_65 : decode cX8_tithes 65 = .ok (.ifCond .ne 7, 3) := by decide +kernel
theorem dX8_tithes_68 : decode cX8_tithes 68 = .ok (.ldc2_w 163, 3) := by decide +kernel
theorem dX8_tithes_71 : decode cX8_tithes 71 = .ok (.lreturn, 1) := by decide +kernel
theorem dX8_tithes_72 : decode cX8_tithes 72 = .ok (.iload 4, 2) := by decide +kernel
theorem dX8_tithes_74 : decode cX8_tithes 74 = .ok (.istore 8, 2) := by decide +kernel
theorem dX8_tithes_76 : decode cX8_tithes 76 = .ok (.iload 8, 2) := by decide +kernel
theorem dX8_tithes_78 : decode cX8_tithes 78 = .ok (.iload 4, 2) := by decide +kernel
theorem dX8_tithes_80 : decode cX8_tithes 80 = .ok (.iload 5, 2) := by decide +kernel
theorem dX8_tithes_82 : decode cX8_tithes 82 = .ok (.iadd, 1) := by decide +kernel
theorem dX8_tithes_83 : decode cX8_tithes 83 = .ok (.if_icmp .ge 27, 3) := by decide +kernel
theorem dX8_tithes_86 : decode cX8_tithes 86 = .ok (.aload 7, 2) := by decide +kernel
theorem dX8_tithes_88 : decode cX8_tithes 88 = .ok (.getfield 88, 3) := by decide +kernel
theorem dX8_tithes_91 : decode cX8_tithes 91 = .ok (.iload 8, 2) := by decide +kernel
theorem dX8_tithes_93 : decode cX8_tithes 93 = .ok (.iaload, 1) := by decide +kernel
theorem dX8_tithes_94 : decode cX8_tithes 94 = .ok (.invokestatic 157, 3) := by decide +kernel
theorem dX8_tithes_97 : decode cX8_tithes 97 = .ok (.ifCond .ne 7, 3) := by decide +kernel
theorem dX8_tithes_100 : decode cX8_tithes 100 = .ok (.ldc2_w 163, 3) := by decide +kernel
theorem dX8_tithes_103 : decode cX8_tithes 103 = .ok (.lreturn, 1) := by decide +kernel
theorem dX8_tithes_104 : decode cX8_tithes 104 = .ok (.iinc 8 1, 3) := by decide +kernel
theorem dX8_tithes_107 : decode cX8_tithes 107 = .ok (.goto (-31), 3) := by decide +kernel
theorem dX8_tithes_110 : decode cX8_tithes 110 = .ok (.lconst 0, 1) := by decide +kernel
theorem dX8_tithes_111 : decode cX8_tithes 111 = .ok (.lstore 8, 2) := by decide +kernel
theorem dX8_tithes_113 : decode cX8_tithes 113 = .ok (.iload 4, 2) := by decide +kernel
theorem dX8_tithes_115 : decode cX8_tithes 115 = .ok (.istore 10, 2) := by decide +kernel
theorem dX8_tithes_117 : decode cX8_tithes 117 = .ok (.iload 10, 2) := by decide +kernel
theorem dX8_tithes_119 : decode cX8_tithes 119 = .ok (.iload 4, 2) := by decide +kernel
theorem dX8_tithes_121 : decode cX8_tithes 121 = .ok (.iload 5, 2) := by decide +kernel
theorem dX8_tithes_123 : decode cX8_tithes 123 = .ok (.iadd, 1) := by decide +kernel
theorem dX8_tithes_124 : decode cX8_tithes 124 = .ok (.if_icmp .ge 35, 3) := by decide +kernel
theorem dX8_tithes_127 : decode cX8_tithes 127 = .ok (.aload_n 0, 1) := by decide +kernel
theorem dX8_tithes_128 : decode cX8_tithes 128 = .ok (.getfield 30, 3) := by decide +kernel
theorem dX8_tithes_131 : decode cX8_tithes 131 = .ok (.aload 7, 2) := by decide +kernel
theorem dX8_tithes_133 : decode cX8_tithes 133 = .ok (.getfield 88, 3) := by decide +kernel
theorem dX8_tithes_136 : decode cX8_tithes 136 = .ok (.iload 10, 2) := by decide +kernel
theorem dX8_tithes_138 : decode cX8_tithes 138 = .ok (.iaload, 1) := by decide +kernel
theorem dX8_tithes_139 : decode cX8_tithes 139 = .ok (.invokevirtual 177, 3) := by decide +kernel
theorem dX8_tithes_142 : decode cX8_tithes 142 = .ok (.lload 8, 2) := by decide +kernel
theorem dX8_tithes_144 : decode cX8_tithes 144 = .ok (.aload_n 0, 1) := by decide +kernel
theorem dX8_tithes_145 : decode cX8_tithes 145 = .ok (.iload_n 1, 1) := by decide +kernel
theorem dX8_tithes_146 : decode cX8_tithes 146 = .ok (.invokevirtual 183, 3) := by decide +kernel
theorem dX8_tithes_149 : decode cX8_tithes 149 = .ok (.i2l, 1) := by decide +kernel
theorem dX8_tithes_150 : decode cX8_tithes 150 = .ok (.ladd, 1) := by decide +kernel
theorem dX8_tithes_151 : decode cX8_tithes 151 = .ok (.lstore 8, 2) := by decide +kernel
theorem dX8_tithes_153 : decode cX8_tithes 153 = .ok (.iinc 10 1, 3) := by decide +kernel
theorem dX8_tithes_156 : decode cX8_tithes 156 = .ok (.goto (-39), 3) := by decide +kernel
theorem dX8_tithes_159 : decode cX8_tithes 159 = .ok (.lload 8, 2) := by decide +kernel
theorem dX8_tithes_161 : decode cX8_tithes 161 = .ok (.ldc2_w 186, 3) := by decide +kernel
theorem dX8_tithes_164 : decode cX8_tithes 164 = .ok (.iload 6, 2) := by decide +kernel
theorem dX8_tithes_166 : decode cX8_tithes 166 = .ok (.invokestatic 173, 3) := by decide +kernel
theorem dX8_tithes_169 : decode cX8_tithes 169 = .ok (.lreturn, 1) := by decide +kernel
theorem dX8_wins_0 : decode cX8_wins 0 = .ok (.aload_n 0, 1) := by decide +kernel
theorem dX8_wins_1 : decode cX8_wins 1 = .ok (.iload_n 1, 1) := by decide +kernel
theorem dX8_wins_2 : decode cX8_wins 2 = .ok (.invokevirtual 145, 3) := by decide +kernel
theorem dX8_wins_5 : decode cX8_wins 5 = .ok (.ifCond .eq 11, 3) := by decide +kernel
theorem dX8_wins_8 : decode cX8_wins 8 = .ok (.aload_n 0, 1) := by decide +kernel
theorem dX8_wins_9 : decode cX8_wins 9 = .ok (.iload_n 2, 1) := by decide +kernel
theorem dX8_wins_10 : decode cX8_wins 10 = .ok (.invokevirtual 110, 3) := by decide +kernel
theorem dX8_wins_13 : decode cX8_wins 13 = .ok (.ifCond .ne 5, 3) := by decide +kernel
theorem dX8_wins_16 : decode cX8_wins 16 = .ok (.iconst (-1), 1) := by decide +kernel
theorem dX8_wins_17 : decode cX8_wins 17 = .ok (.ireturn, 1) := by decide +kernel
theorem dX8_wins_18 : decode cX8_wins 18 = .ok (.iload_n 3, 1) := by decide +kernel
theorem dX8_wins_19 : decode cX8_wins 19 = .ok (.invokestatic 157, 3) := by decide +kernel
theorem dX8_wins_22 : decode cX8_wins 22 = .ok (.ifCond .ne 6, 3) := by decide +kernel
theorem dX8_wins_25 : decode cX8_wins 25 = .ok (.bipush (-2), 2) := by decide +kernel
theorem dX8_wins_27 : decode cX8_wins 27 = .ok (.ireturn, 1) := by decide +kernel
theorem dX8_wins_28 : decode cX8_wins 28 = .ok (.aload_n 0, 1) := by decide +kernel
theorem dX8_wins_29 : decode cX8_wins 29 = .ok (.getfield 30, 3) := by decide +kernel
theorem dX8_wins_32 : decode cX8_wins 32 = .ok (.iload_n 3, 1) := by decide +kernel
theorem dX8_wins_33 : decode cX8_wins 33 = .ok (.invokevirtual 177, 3) := by decide +kernel
theorem dX8_wins_36 : decode cX8_wins 36 = .ok (.aload_n 0, 1) := by decide +kernel
theorem dX8_wins_37 : decode cX8_wins 37 = .ok (.getfield 30, 3) := by decide +kernel
theorem dX8_wins_40 : decode cX8_wins 40 = .ok (.iload_n 1, 1) := by decide +kernel
theorem dX8_wins_41 : decode cX8_wins 41 = .ok (.iload_n 2, 1) := by decide +kernel
theorem dX8_wins_42 : decode cX8_wins 42 = .ok (.invokevirtual 188, 3) := by decide +kernel
theorem dX8_wins_45 : decode cX8_wins 45 = .ok (.ireturn, 1) := by decide +kernel
theorem dX8_cheapest_0 : decode cX8_cheapest 0 = .ok (.aload_n 0, 1) := by decide +kernel
theorem dX8_cheapest_1 : decode cX8_cheapest 1 = .ok (.iload_n 1, 1) := by decide +kernel
theorem dX8_cheapest_2 : decode cX8_cheapest 2 = .ok (.invokevirtual 110, 3) := by decide +kernel
theorem dX8_cheapest_5 : decode cX8_cheapest 5 = .ok (.ifCond .ne 5, 3) := by decide +kernel
theorem dX8_cheapest_8 : decode cX8_cheapest 8 = .ok (.iconst (-1), 1) := by decide +kernel
theorem dX8_cheapest_9 : decode cX8_cheapest 9 = .ok (.ireturn, 1) := by decide +kernel
theorem dX8_cheapest_10 : decode cX8_cheapest 10 = .ok (.iload_n 2, 1) := by decide +kernel
theorem dX8_cheapest_11 : decode cX8_cheapest 11 = .ok (.invokestatic 157, 3) := by decide +kernel
theorem dX8_cheapest_14 : decode cX8_cheapest 14 = .ok (.ifCond .eq 10, 3) := by decide +kernel
theorem dX8_cheapest_17 : decode cX8_cheapest 17 = .ok (.iload_n 3, 1) := by decide +kernel
theorem dX8_cheapest_18 : decode cX8_cheapest 18 = .ok (.invokestatic 160, 3) := by decide +kernel
theorem dX8_cheapest_21 : decode cX8_cheapest 21 = .ok (.ifCond .ne 6, 3) := by decide +kernel
theorem dX8_cheapest_24 : decode cX8_cheapest 24 = .ok (.bipush (-2), 2) := by decide +kernel
theorem dX8_cheapest_26 : decode cX8_cheapest 26 = .ok (.ireturn, 1) := by decide +kernel
theorem dX8_cheapest_27 : decode cX8_cheapest 27 = .ok (.aload_n 0, 1) := by decide +kernel
theorem dX8_cheapest_28 : decode cX8_cheapest 28 = .ok (.getfield 30, 3) := by decide +kernel
theorem dX8_cheapest_31 : decode cX8_cheapest 31 = .ok (.iload_n 2, 1) := by decide +kernel
theorem dX8_cheapest_32 : decode cX8_cheapest 32 = .ok (.invokevirtual 177, 3) := by decide +kernel
theorem dX8_cheapest_35 : decode cX8_cheapest 35 = .ok (.bipush (-9), 2) := by decide +kernel
theorem dX8_cheapest_37 : decode cX8_cheapest 37 = .ok (.istore 4, 2) := by decide +kernel
theorem dX8_cheapest_39 : decode cX8_cheapest 39 = .ok (.bipush (-9), 2) := by decide +kernel
theorem dX8_cheapest_41 : decode cX8_cheapest 41 = .ok (.istore 5, 2) := by decide +kernel
theorem dX8_cheapest_43 : decode cX8_cheapest 43 = .ok (.iconst 0, 1) := by decide +kernel
theorem dX8_cheapest_44 : decode cX8_cheapest 44 = .ok (.istore 6, 2) := by decide +kernel
theorem dX8_cheapest_46 : decode cX8_cheapest 46 = .ok (.iload 6, 2) := by decide +kernel
theorem dX8_cheapest_48 : decode cX8_cheapest 48 = .ok (.aload_n 0, 1) := by decide +kernel
theorem dX8_cheapest_49 : decode cX8_cheapest 49 = .ok (.getfield 21, 3) := by decide +kernel
theorem dX8_cheapest_52 : decode cX8_cheapest 52 = .ok (.getfield 100, 3) := by decide +kernel
theorem dX8_cheapest_55 : decode cX8_cheapest 55 = .ok (.if_icmp .ge 69, 3) := by decide +kernel
theorem dX8_cheapest_58 : decode cX8_cheapest 58 = .ok (.aload_n 0, 1) := by decide +kernel
theorem dX8_cheapest_59 : decode cX8_cheapest 59 = .ok (.getfield 30, 3) := by decide +kernel
theorem dX8_cheapest_62 : decode cX8_cheapest 62 = .ok (.iload 6, 2) := by decide +kernel
theorem dX8_cheapest_64 : decode cX8_cheapest 64 = .ok (.iload_n 1, 1) := by decide +kernel
theorem dX8_cheapest_65 : decode cX8_cheapest 65 = .ok (.invokevirtual 188, 3) := by decide +kernel
theorem dX8_cheapest_68 : decode cX8_cheapest 68 = .ok (.istore 7, 2) := by decide +kernel
theorem dX8_cheapest_70 : decode cX8_cheapest 70 = .ok (.iconst 0, 1) := by decide +kernel
theorem dX8_cheapest_71 : decode cX8_cheapest 71 = .ok (.iload 7, 2) := by decide +kernel
theorem dX8_cheapest_73 : decode cX8_cheapest 73 = .ok (.aload_n 0, 1) := by decide +kernel
theorem dX8_cheapest_74 : decode cX8_cheapest 74 = .ok (.getfield 21, 3) := by decide +kernel
theorem dX8_cheapest_77 : decode cX8_cheapest 77 = .ok (.getfield 154, 3) := by decide +kernel
theorem dX8_cheapest_80 : decode cX8_cheapest 80 = .ok (.iload 6, 2) := by decide +kernel
theorem dX8_cheapest_82 : decode cX8_cheapest 82 = .ok (.iaload, 1) := by decide +kernel
theorem dX8_cheapest_83 : decode cX8_cheapest 83 = .ok (.isub, 1) := by decide +kernel
theorem dX8_cheapest_84 : decode cX8_cheapest 84 = .ok (.invokestatic 192, 3) := by decide +kernel
theorem dX8_cheapest_87 : decode cX8_cheapest 87 = .ok (.istore 8, 2) := by decide +kernel
theorem dX8_cheapest_89 : decode cX8_cheapest 89 = .ok (.iload 7, 2) := by decide +kernel
theorem dX8_cheapest_91 : decode cX8_cheapest 91 = .ok (.bipush (-9), 2) := by decide +kernel
theorem dX8_cheapest_93 : decode cX8_cheapest 93 = .ok (.if_icmp .eq 25, 3) := by decide +kernel
theorem dX8_cheapest_96 : decode cX8_cheapest 96 = .ok (.iload 4, 2) := by decide +kernel
theorem dX8_cheapest_98 : decode cX8_cheapest 98 = .ok (.bipush (-9), 2) := by decide +kernel
theorem dX8_cheapest_100 : decode cX8_cheapest 100 = .ok (.if_icmp .eq 10, 3) := by decide +kernel
theorem dX8_cheapest_103 : decode cX8_cheapest 103 = .ok (.iload 8, 2) := by decide +kernel
theorem dX8_cheapest_105 : decode cX8_cheapest 105 = .ok (.iload 5, 2) := by decide +kernel
theorem dX8_cheapest_107 : decode cX8_cheapest 107 = .ok (.if_icmp .ge 11, 3) := by decide +kernel
theorem dX8_cheapest_110 : decode cX8_cheapest 110 = .ok (.iload 6, 2) := by decide +kernel
theorem dX8_cheapest_112 : decode cX8_cheapest 112 = .ok (.istore 4, 2) := by decide +kernel
theorem dX8_cheapest_114 : decode cX8_cheapest 114 = .ok (.iload 8, 2) := by decide +kernel
theorem dX8_cheapest_116 : decode cX8_cheapest 116 = .ok (.istore 5, 2) := by decide +kernel
theorem dX8_cheapest_118 : decode cX8_cheapest 118 = .ok (.iinc 6 1, 3) := by decide +kernel
theorem dX8_cheapest_121 : decode cX8_cheapest 121 = .ok (.goto (-75), 3) := by decide +kernel
theorem dX8_cheapest_124 : decode cX8_cheapest 124 = .ok (.iload_n 3, 1) := by decide +kernel
theorem dX8_cheapest_125 : decode cX8_cheapest 125 = .ok (.ifCond .ne 8, 3) := by decide +kernel
theorem dX8_cheapest_128 : decode cX8_cheapest 128 = .ok (.iload 4, 2) := by decide +kernel
theorem dX8_cheapest_130 : decode cX8_cheapest 130 = .ok (.goto 5, 3) := by decide +kernel
theorem dX8_cheapest_133 : decode cX8_cheapest 133 = .ok (.iload 5, 2) := by decide +kernel
theorem dX8_cheapest_135 : decode cX8_cheapest 135 = .ok (.ireturn, 1) := by decide +kernel
theorem dX8_hang_0 : decode cX8_hang 0 = .ok (.iload_n 1, 1) := by decide +kernel
theorem dX8_hang_1 : decode cX8_hang 1 = .ok (.invokestatic 132, 3) := by decide +kernel
theorem dX8_hang_4 : decode cX8_hang 4 = .ok (.ifCond .eq 25, 3) := by decide +kernel
theorem dX8_hang_7 : decode cX8_hang 7 = .ok (.iload_n 2, 1) := by decide +kernel
theorem dX8_hang_8 : decode cX8_hang 8 = .ok (.invokestatic 135, 3) := by decide +kernel
theorem dX8_hang_11 : decode cX8_hang 11 = .ok (.ifCond .eq 18, 3) := by decide +kernel
theorem dX8_hang_14 : decode cX8_hang 14 = .ok (.iload_n 3, 1) := by decide +kernel
theorem dX8_hang_15 : decode cX8_hang 15 = .ok (.invokestatic 157, 3) := by decide +kernel
theorem dX8_hang_18 : decode cX8_hang 18 = .ok (.ifCond .eq 11, 3) := by decide +kernel
theorem dX8_hang_21 : decode cX8_hang 21 = .ok (.iload 4, 2) := by decide +kernel
theorem dX8_hang_23 : decode cX8_hang 23 = .ok (.invokestatic 160, 3) := by decide +kernel
theorem dX8_hang_26 : decode cX8_hang 26 = .ok (.ifCond .ne 6, 3) := by decide +kernel
theorem dX8_hang_29 : decode cX8_hang 29 = .ok (.bipush (-2), 2) := by decide +kernel
theorem dX8_hang_31 : decode cX8_hang 31 = .ok (.ireturn, 1) := by decide +kernel
theorem dX8_hang_32 : decode cX8_hang 32 = .ok (.aload_n 0, 1) := by decide +kernel
theorem dX8_hang_33 : decode cX8_hang 33 = .ok (.getfield 14, 3) := by decide +kernel
theorem dX8_hang_36 : decode cX8_hang 36 = .ok (.getfield 107, 3) := by decide +kernel
theorem dX8_hang_39 : decode cX8_hang 39 = .ok (.ifCond .ne 6, 3) := by decide +kernel
theorem dX8_hang_42 : decode cX8_hang 42 = .ok (.bipush (-3), 2) := by decide +kernel
theorem dX8_hang_44 : decode cX8_hang 44 = .ok (.ireturn, 1) := by decide +kernel
theorem dX8_hang_45 : decode cX8_hang 45 = .ok (.aload_n 0, 1) := by decide +kernel
theorem dX8_hang_46 : decode cX8_hang 46 = .ok (.getfield 21, 3) := by decide +kernel
theorem dX8_hang_49 : decode cX8_hang 49 = .ok (.getfield 100, 3) := by decide +kernel
theorem dX8_hang_52 : decode cX8_hang 52 = .ok (.bipush 6, 2) := by decide +kernel
theorem dX8_hang_54 : decode cX8_hang 54 = .ok (.if_icmp .lt 6, 3) := by decide +kernel
theorem dX8_hang_57 : decode cX8_hang 57 = .ok (.bipush (-4), 2) := by decide +kernel
theorem dX8_hang_59 : decode cX8_hang 59 = .ok (.ireturn, 1) := by decide +kernel
theorem dX8_hang_60 : decode cX8_hang 60 = .ok (.aload_n 0, 1) := by decide +kernel
theorem dX8_hang_61 : decode cX8_hang 61 = .ok (.getfield 30, 3) := by decide +kernel
theorem dX8_hang_64 : decode cX8_hang 64 = .ok (.iload_n 3, 1) := by decide +kernel
theorem dX8_hang_65 : decode cX8_hang 65 = .ok (.invokevirtual 177, 3) := by decide +kernel
theorem dX8_hang_68 : decode cX8_hang 68 = .ok (.aload_n 0, 1) := by decide +kernel
theorem dX8_hang_69 : decode cX8_hang 69 = .ok (.getfield 30, 3) := by decide +kernel
theorem dX8_hang_72 : decode cX8_hang 72 = .ok (.aload_n 0, 1) := by decide +kernel
theorem dX8_hang_73 : decode cX8_hang 73 = .ok (.getfield 21, 3) := by decide +kernel
theorem dX8_hang_76 : decode cX8_hang 76 = .ok (.getfield 154, 3) := by decide +kernel
theorem dX8_hang_79 : decode cX8_hang 79 = .ok (.iconst (-1), 1) := by decide +kernel
theorem dX8_hang_80 : decode cX8_hang 80 = .ok (.invokevirtual 197, 3) := by decide +kernel
theorem dX8_hang_83 : decode cX8_hang 83 = .ok (.iconst 0, 1) := by decide +kernel
theorem dX8_hang_84 : decode cX8_hang 84 = .ok (.istore 5, 2) := by decide +kernel
theorem dX8_hang_86 : decode cX8_hang 86 = .ok (.iconst (-1), 1) := by decide +kernel
theorem dX8_hang_87 : decode cX8_hang 87 = .ok (.istore 6, 2) := by decide +kernel
theorem dX8_hang_89 : decode cX8_hang 89 = .ok (.iconst 0, 1) := by decide +kernel
theorem dX8_hang_90 : decode cX8_hang 90 = .ok (.istore 7, 2) := by decide +kernel
theorem dX8_hang_92 : decode cX8_hang 92 = .ok (.iload 7, 2) := by decide +kernel
theorem dX8_hang_94 : decode cX8_hang 94 = .ok (.aload_n 0, 1) := by decide +kernel
theorem dX8_hang_95 : decode cX8_hang 95 = .ok (.getfield 14, 3) := by decide +kernel
theorem dX8_hang_98 : decode cX8_hang 98 = .ok (.getfield 107, 3) := by decide +kernel
theorem dX8_hang_101 : decode cX8_hang 101 = .ok (.if_icmp .ge 38, 3) := by decide +kernel
theorem dX8_hang_104 : decode cX8_hang 104 = .ok (.aload_n 0, 1) := by decide +kernel
theorem dX8_hang_105 : decode cX8_hang 105 = .ok (.getfield 30, 3) := by decide +kernel
theorem dX8_hang_108 : decode cX8_hang 108 = .ok (.iload 7, 2) := by decide +kernel
theorem dX8_hang_110 : decode cX8_hang 110 = .ok (.iload_n 1, 1) := by decide +kernel
theorem dX8_hang_111 : decode cX8_hang 111 = .ok (.iload_n 2, 1) := by decide +kernel
theorem dX8_hang_112 : decode cX8_hang 112 = .ok (.iload_n 3, 1) := by decide +kernel
theorem dX8_hang_113 : decode cX8_hang 113 = .ok (.invokevirtual 200, 3) := by decide +kernel
theorem dX8_hang_116 : decode cX8_hang 116 = .ok (.istore 8, 2) := by decide +kernel
theorem dX8_hang_118 : decode cX8_hang 118 = .ok (.iload 8, 2) := by decide +kernel
theorem dX8_hang_120 : decode cX8_hang 120 = .ok (.iload 6, 2) := by decide +kernel
theorem dX8_hang_122 : decode cX8_hang 122 = .ok (.if_icmp .le 11, 3) := by decide +kernel
theorem dX8_hang_125 : decode cX8_hang 125 = .ok (.iload 7, 2) := by decide +kernel
theorem dX8_hang_127 : decode cX8_hang 127 = .ok (.istore 5, 2) := by decide +kernel
theorem dX8_hang_129 : decode cX8_hang 129 = .ok (.iload 8, 2) := by decide +kernel
theorem dX8_hang_131 : decode cX8_hang 131 = .ok (.istore 6, 2) := by decide +kernel
theorem dX8_hang_133 : decode cX8_hang 133 = .ok (.iinc 7 1, 3) := by decide +kernel
theorem dX8_hang_136 : decode cX8_hang 136 = .ok (.goto (-44), 3) := by decide +kernel
theorem dX8_hang_139 : decode cX8_hang 139 = .ok (.iload 4, 2) := by decide +kernel
theorem dX8_hang_141 : decode cX8_hang 141 = .ok (.ifCond .ne 8, 3) := by decide +kernel
theorem dX8_hang_144 : decode cX8_hang 144 = .ok (.iload 5, 2) := by decide +kernel
theorem dX8_hang_146 : decode cX8_hang 146 = .ok (.goto 5, 3) := by decide +kernel
theorem dX8_hang_149 : decode cX8_hang 149 = .ok (.iload 6, 2) := by decide +kernel
theorem dX8_hang_151 : decode cX8_hang 151 = .ok (.ireturn, 1) := by decide +kernel
theorem dX8_together_0 : decode cX8_together 0 = .ok (.aload_n 0, 1) := by decide +kernel
theorem dX8_together_1 : decode cX8_together 1 = .ok (.iload_n 1, 1) := by decide +kernel
theorem dX8_together_2 : decode cX8_together 2 = .ok (.invokevirtual 145, 3) := by decide +kernel
theorem dX8_together_5 : decode cX8_together 5 = .ok (.ifCond .eq 16, 3) := by decide +kernel
theorem dX8_together_8 : decode cX8_together 8 = .ok (.aload_n 0, 1) := by decide +kernel
theorem dX8_together_9 : decode cX8_together 9 = .ok (.iload_n 2, 1) := by decide +kernel
theorem dX8_together_10 : decode cX8_together 10 = .ok (.invokevirtual 145, 3) := by decide +kernel
theorem dX8_together_13 : decode cX8_together 13 = .ok (.ifCond .eq 8, 3) := by decide +kernel
theorem dX8_together_16 : decode cX8_together 16 = .ok (.iload_n 1, 1) := by decide +kernel
theorem dX8_together_17 : decode cX8_together 17 = .ok (.iload_n 2, 1) := by decide +kernel
theorem dX8_together_18 : decode cX8_together 18 = .ok (.if_icmp .ne 5, 3) := by decide +kernel
theorem dX8_together_21 : decode cX8_together 21 = .ok (.iconst (-1), 1) := by decide +kernel
theorem dX8_together_22 : decode cX8_together 22 = .ok (.ireturn, 1) := by decide +kernel
theorem dX8_together_23 : decode cX8_together 23 = .ok (.iload_n 3, 1) := by decide +kernel
theorem dX8_together_24 : decode cX8_together 24 = .ok (.invokestatic 157, 3) := by decide +kernel
theorem dX8_together_27 : decode cX8_together 27 = .ok (.ifCond .ne 6, 3) := by decide +kernel
theorem dX8_together_30 : decode cX8_together 30 = .ok (.bipush (-2), 2) := by decide +kernel
theorem dX8_together_32 : decode cX8_together 32 = .ok (.ireturn, 1) := by decide +kernel
theorem dX8_together_33 : decode cX8_together 33 = .ok (.aload_n 0, 1) := by decide +kernel
theorem dX8_together_34 : decode cX8_together 34 = .ok (.getfield 30, 3) := by decide +kernel
theorem dX8_together_37 : decode cX8_together 37 = .ok (.iload_n 3, 1) := by decide +kernel
theorem dX8_together_38 : decode cX8_together 38 = .ok (.invokevirtual 177, 3) := by decide +kernel
theorem dX8_together_41 : decode cX8_together 41 = .ok (.aload_n 0, 1) := by decide +kernel
theorem dX8_together_42 : decode cX8_together 42 = .ok (.getfield 30, 3) := by decide +kernel
theorem dX8_together_45 : decode cX8_together 45 = .ok (.iload_n 1, 1) := by decide +kernel
theorem dX8_together_46 : decode cX8_together 46 = .ok (.iload_n 2, 1) := by decide +kernel
theorem dX8_together_47 : decode cX8_together 47 = .ok (.invokevirtual 204, 3) := by decide +kernel
theorem dX8_together_50 : decode cX8_together 50 = .ok (.ireturn, 1) := by decide +kernel
theorem dX8_pacts_0 : decode cX8_pacts 0 = .ok (.iload_n 1, 1) := by decide +kernel
theorem dX8_pacts_1 : decode cX8_pacts 1 = .ok (.invokestatic 157, 3) := by decide +kernel
theorem dX8_pacts_4 : decode cX8_pacts 4 = .ok (.ifCond .ne 6, 3) := by decide +kernel
theorem dX8_pacts_7 : decode cX8_pacts 7 = .ok (.bipush (-2), 2) := by decide +kernel
theorem dX8_pacts_9 : decode cX8_pacts 9 = .ok (.ireturn, 1) := by decide +kernel
theorem dX8_pacts_10 : decode cX8_pacts 10 = .ok (.iload_n 2, 1) := by decide +kernel
theorem dX8_pacts_11 : decode cX8_pacts 11 = .ok (.iconst (-1), 1) := by decide +kernel
theorem dX8_pacts_12 : decode cX8_pacts 12 = .ok (.if_icmp .ge 5, 3) := by decide +kernel
theorem dX8_pacts_15 : decode cX8_pacts 15 = .ok (.iconst (-1), 1) := by decide +kernel
theorem dX8_pacts_16 : decode cX8_pacts 16 = .ok (.ireturn, 1) := by decide +kernel
theorem dX8_pacts_17 : decode cX8_pacts 17 = .ok (.aload_n 0, 1) := by decide +kernel
theorem dX8_pacts_18 : decode cX8_pacts 18 = .ok (.getfield 30, 3) := by decide +kernel
theorem dX8_pacts_21 : decode cX8_pacts 21 = .ok (.iload_n 1, 1) := by decide +kernel
theorem dX8_pacts_22 : decode cX8_pacts 22 = .ok (.invokevirtual 177, 3) := by decide +kernel
theorem dX8_pacts_25 : decode cX8_pacts 25 = .ok (.iconst 0, 1) := by decide +kernel
theorem dX8_pacts_26 : decode cX8_pacts 26 = .ok (.istore_n 3, 1) := by decide +kernel
theorem dX8_pacts_27 : decode cX8_pacts 27 = .ok (.iconst 0, 1) := by decide +kernel
theorem dX8_pacts_28 : decode cX8_pacts 28 = .ok (.istore 4, 2) := by decide +kernel
theorem dX8_pacts_30 : decode cX8_pacts 30 = .ok (.iload 4, 2) := by decide +kernel
theorem dX8_pacts_32 : decode cX8_pacts 32 = .ok (.aload_n 0, 1) := by decide +kernel
theorem dX8_pacts_33 : decode cX8_pacts 33 = .ok (.getfield 21, 3) := by decide +kernel
theorem dX8_pacts_36 : decode cX8_pacts 36 = .ok (.getfield 100, 3) := by decide +kernel
theorem dX8_pacts_39 : decode cX8_pacts 39 = .ok (.if_icmp .ge 64, 3) := by decide +kernel
theorem dX8_pacts_42 : decode cX8_pacts 42 = .ok (.iload 4, 2) := by decide +kernel
theorem dX8_pacts_44 : decode cX8_pacts 44 = .ok (.iconst 1, 1) := by decide +kernel
theorem dX8_pacts_45 : decode cX8_pacts 45 = .ok (.iadd, 1) := by decide +kernel
theorem dX8_pacts_46 : decode cX8_pacts 46 = .ok (.istore 5, 2) := by decide +kernel
theorem dX8_pacts_48 : decode cX8_pacts 48 = .ok (.iload 5, 2) := by decide +kernel
theorem dX8_pacts_50 : decode cX8_pacts 50 = .ok (.aload_n 0, 1) := by decide +kernel
theorem dX8_pacts_51 : decode cX8_pacts 51 = .ok (.getfield 21, 3) := by decide +kernel
theorem dX8_pacts_54 : decode cX8_pacts 54 = .ok (.getfield 100, 3) := by decide +kernel
theorem dX8_pacts_57 : decode cX8_pacts 57 = .ok (.if_icmp .ge 40, 3) := by decide +kernel
theorem dX8_pacts_60 : decode cX8_pacts 60 = .ok (.aload_n 0, 1) := by decide +kernel
theorem dX8_pacts_61 : decode cX8_pacts 61 = .ok (.iload 4, 2) := by decide +kernel
theorem dX8_pacts_63 : decode cX8_pacts 63 = .ok (.iload 5, 2) := by decide +kernel
theorem dX8_pacts_65 : decode cX8_pacts 65 = .ok (.invokevirtual 207, 3) := by decide +kernel
theorem dX8_pacts_68 : decode cX8_pacts 68 = .ok (.ifCond .ne 6, 3) := by decide +kernel
theorem dX8_pacts_71 : decode cX8_pacts 71 = .ok (.goto 20, 3) := by decide +kernel
theorem dX8_pacts_74 : decode cX8_pacts 74 = .ok (.iload_n 3, 1) := by decide +kernel
theorem dX8_pacts_75 : decode cX8_pacts 75 = .ok (.iload_n 2, 1) := by decide +kernel
theorem dX8_pacts_76 : decode cX8_pacts 76 = .ok (.if_icmp .ne 12, 3) := by decide +kernel
theorem dX8_pacts_79 : decode cX8_pacts 79 = .ok (.bipush 10, 2) := by decide +kernel
theorem dX8_pacts_81 : decode cX8_pacts 81 = .ok (.iload 4, 2) := by decide +kernel
theorem dX8_pacts_83 : decode cX8_pacts 83 = .ok (.imul, 1) := by decide +kernel
theorem dX8_pacts_84 : decode cX8_pacts 84 = .ok (.iload 5, 2) := by decide +kernel
theorem dX8_pacts_86 : decode cX8_pacts 86 = .ok (.iadd, 1) := by decide +kernel
theorem dX8_pacts_87 : decode cX8_pacts 87 = .ok (.ireturn, 1) := by decide +kernel
theorem dX8_pacts_88 : decode cX8_pacts 88 = .ok (.iinc 3 1, 3) := by decide +kernel
theorem dX8_pacts_91 : decode cX8_pacts 91 = .ok (.iinc 5 1, 3) := by decide +kernel
theorem dX8_pacts_94 : decode cX8_pacts 94 = .ok (.goto (-46), 3) := by decide +kernel
theorem dX8_pacts_97 : decode cX8_pacts 97 = .ok (.iinc 4 1, 3) := by decide +kernel
theorem dX8_pacts_100 : decode cX8_pacts 100 = .ok (.goto (-70), 3) := by decide +kernel
theorem dX8_pacts_103 : decode cX8_pacts 103 = .ok (.iload_n 2, 1) := by decide +kernel
theorem dX8_pacts_104 : decode cX8_pacts 104 = .ok (.iconst (-1), 1) := by decide +kernel
theorem dX8_pacts_105 : decode cX8_pacts 105 = .ok (.if_icmp .ne 7, 3) := by decide +kernel
theorem dX8_pacts_108 : decode cX8_pacts 108 = .ok (.iload_n 3, 1) := by decide +kernel
theorem dX8_pacts_109 : decode cX8_pacts 109 = .ok (.goto 5, 3) := by decide +kernel
theorem dX8_pacts_112 : decode cX8_pacts 112 = .ok (.bipush (-9), 2) := by decide +kernel
theorem dX8_pacts_114 : decode cX8_pacts 114 = .ok (.ireturn, 1) := by decide +kernel
theorem dX8_report_0 : decode cX8_report 0 = .ok (.aload_n 0, 1) := by decide +kernel
theorem dX8_report_1 : decode cX8_report 1 = .ok (.iload_n 1, 1) := by decide +kernel
theorem dX8_report_2 : decode cX8_report 2 = .ok (.invokevirtual 110, 3) := by decide +kernel
theorem dX8_report_5 : decode cX8_report 5 = .ok (.ifCond .eq 26, 3) := by decide +kernel
theorem dX8_report_8 : decode cX8_report 8 = .ok (.aload_n 0, 1) := by decide +kernel
theorem dX8_report_9 : decode cX8_report 9 = .ok (.iload_n 3, 1) := by decide +kernel
theorem dX8_report_10 : decode cX8_report 10 = .ok (.invokevirtual 145, 3) := by decide +kernel
theorem dX8_report_13 : decode cX8_report 13 = .ok (.ifCond .eq 18, 3) := by decide +kernel
theorem dX8_report_16 : decode cX8_report 16 = .ok (.aload_n 0, 1) := by decide +kernel
theorem dX8_report_17 : decode cX8_report 17 = .ok (.iload 4, 2) := by decide +kernel
theorem dX8_report_19 : decode cX8_report 19 = .ok (.invokevirtual 145, 3) := by decide +kernel
theorem dX8_report_22 : decode cX8_report 22 = .ok (.ifCond .eq 9, 3) := by decide +kernel
theorem dX8_report_25 : decode cX8_report 25 = .ok (.iload_n 3, 1) := by decide +kernel
theorem dX8_report_26 : decode cX8_report 26 = .ok (.iload 4, 2) := by decide +kernel
theorem dX8_report_28 : decode cX8_report 28 = .ok (.if_icmp .ne 5, 3) := by decide +kernel
theorem dX8_report_31 : decode cX8_report 31 = .ok (.iconst (-1), 1) := by decide +kernel
theorem dX8_report_32 : decode cX8_report 32 = .ok (.ireturn, 1) := by decide +kernel
theorem dX8_report_33 : decode cX8_report 33 = .ok (.iload_n 2, 1) := by decide +kernel
theorem dX8_report_34 : decode cX8_report 34 = .ok (.invokestatic 157, 3) := by decide +kernel
theorem dX8_report_37 : decode cX8_report 37 = .ok (.ifCond .ne 6, 3) := by decide +kernel
theorem dX8_report_40 : decode cX8_report 40 = .ok (.bipush (-2), 2) := by decide +kernel
theorem dX8_report_42 : decode cX8_report 42 = .ok (.ireturn, 1) := by decide +kernel
theorem dX8_report_43 : decode cX8_report 43 = .ok (.aload_n 0, 1) := by decide +kernel
theorem dX8_report_44 : decode cX8_report 44 = .ok (.getfield 39, 3) := by decide +kernel
theorem dX8_report_47 : decode cX8_report 47 = .ok (.getfield 103, 3) := by decide +kernel
theorem dX8_report_50 : decode cX8_report 50 = .ok (.bipush 10, 2) := by decide +kernel
theorem dX8_report_52 : decode cX8_report 52 = .ok (.if_icmp .lt 6, 3) := by decide +kernel
theorem dX8_report_55 : decode cX8_report 55 = .ok (.bipush (-4), 2) := by decide +kernel
theorem dX8_report_57 : decode cX8_report 57 = .ok (.ireturn, 1) := by decide +kernel
theorem dX8_report_58 : decode cX8_report 58 = .ok (.aload_n 0, 1) := by decide +kernel
theorem dX8_report_59 : decode cX8_report 59 = .ok (.getfield 39, 3) := by decide +kernel
theorem dX8_report_62 : decode cX8_report 62 = .ok (.iload_n 1, 1) := by decide +kernel
theorem dX8_report_63 : decode cX8_report 63 = .ok (.iload_n 2, 1) := by decide +kernel
theorem dX8_report_64 : decode cX8_report 64 = .ok (.iload_n 3, 1) := by decide +kernel
theorem dX8_report_65 : decode cX8_report 65 = .ok (.iload 4, 2) := by decide +kernel
theorem dX8_report_67 : decode cX8_report 67 = .ok (.invokevirtual 211, 3) := by decide +kernel
theorem dX8_report_70 : decode cX8_report 70 = .ok (.ireturn, 1) := by decide +kernel
theorem dX8_back_0 : decode cX8_back 0 = .ok (.iload_n 1, 1) := by decide +kernel
theorem dX8_back_1 : decode cX8_back 1 = .ok (.ifCond .lt 14, 3) := by decide +kernel
theorem dX8_back_4 : decode cX8_back 4 = .ok (.iload_n 1, 1) := by decide +kernel
theorem dX8_back_5 : decode cX8_back 5 = .ok (.aload_n 0, 1) := by decide +kernel
theorem dX8_back_6 : decode cX8_back 6 = .ok (.getfield 39, 3) := by decide +kernel
theorem dX8_back_9 : decode cX8_back 9 = .ok (.getfield 103, 3) := by decide +kernel
theorem dX8_back_12 : decode cX8_back 12 = .ok (.if_icmp .le 6, 3) := by decide +kernel
theorem dX8_back_15 : decode cX8_back 15 = .ok (.bipush (-2), 2) := by decide +kernel
theorem dX8_back_17 : decode cX8_back 17 = .ok (.ireturn, 1) := by decide +kernel
theorem dX8_back_18 : decode cX8_back 18 = .ok (.aload_n 0, 1) := by decide +kernel
theorem dX8_back_19 : decode cX8_back 19 = .ok (.getfield 39, 3) := by decide +kernel
theorem dX8_back_22 : decode cX8_back 22 = .ok (.dup, 1) := by decide +kernel
theorem dX8_back_23 : decode cX8_back 23 = .ok (.getfield 103, 3) := by decide +kernel
theorem dX8_back_26 : decode cX8_back 26 = .ok (.iload_n 1, 1) := by decide +kernel
theorem dX8_back_27 : decode cX8_back 27 = .ok (.isub, 1) := by decide +kernel
theorem dX8_back_28 : decode cX8_back 28 = .ok (.putfield 103, 3) := by decide +kernel
theorem dX8_back_31 : decode cX8_back 31 = .ok (.aload_n 0, 1) := by decide +kernel
theorem dX8_back_32 : decode cX8_back 32 = .ok (.getfield 39, 3) := by decide +kernel
theorem dX8_back_35 : decode cX8_back 35 = .ok (.getfield 103, 3) := by decide +kernel
theorem dX8_back_38 : decode cX8_back 38 = .ok (.ireturn, 1) := by decide +kernel
theorem dX8_untrue_0 : decode cX8_untrue 0 = .ok (.iconst 0, 1) := by decide +kernel
theorem dX8_untrue_1 : decode cX8_untrue 1 = .ok (.istore_n 1, 1) := by decide +kernel
theorem dX8_untrue_2 : decode cX8_untrue 2 = .ok (.iconst 0, 1) := by decide +kernel
theorem dX8_untrue_3 : decode cX8_untrue 3 = .ok (.istore_n 2, 1) := by decide +kernel
theorem dX8_untrue_4 : decode cX8_untrue 4 = .ok (.iload_n 2, 1) := by decide +kernel
theorem dX8_untrue_5 : decode cX8_untrue 5 = .ok (.aload_n 0, 1) := by decide +kernel
theorem dX8_untrue_6 : decode cX8_untrue 6 = .ok (.getfield 39, 3) := by decide +kernel
theorem dX8_untrue_9 : decode cX8_untrue 9 = .ok (.getfield 103, 3) := by decide +kernel
theorem dX8_untrue_12 : decode cX8_untrue 12 = .ok (.if_icmp .ge 26, 3) := by decide +kernel
theorem dX8_untrue_15 : decode cX8_untrue 15 = .ok (.aload_n 0, 1) := by decide +kernel
theorem dX8_untrue_16 : decode cX8_untrue 16 = .ok (.getfield 39, 3) := by decide +kernel
theorem dX8_untrue_19 : decode cX8_untrue 19 = .ok (.iload_n 2, 1) := by decide +kernel
theorem dX8_untrue_20 : decode cX8_untrue 20 = .ok (.invokevirtual 213, 3) := by decide +kernel
theorem dX8_untrue_23 : decode cX8_untrue 23 = .ok (.ifCond .ne 9, 3) := by decide +kernel
theorem dX8_untrue_26 : decode cX8_untrue 26 = .ok (.iload_n 1, 1) := by decide +kernel
theorem dX8_untrue_27 : decode cX8_untrue 27 = .ok (.iconst 1, 1) := by decide +kernel
theorem dX8_untrue_28 : decode cX8_untrue 28 = .ok (.iload_n 2, 1) := by decide +kernel
theorem dX8_untrue_29 : decode cX8_untrue 29 = .ok (.ishl, 1) := by decide +kernel
theorem dX8_untrue_30 : decode cX8_untrue 30 = .ok (.ior, 1) := by decide +kernel
theorem dX8_untrue_31 : decode cX8_untrue 31 = .ok (.istore_n 1, 1) := by decide +kernel
theorem dX8_untrue_32 : decode cX8_untrue 32 = .ok (.iinc 2 1, 3) := by decide +kernel
theorem dX8_untrue_35 : decode cX8_untrue 35 = .ok (.goto (-31), 3) := by decide +kernel
theorem dX8_untrue_38 : decode cX8_untrue 38 = .ok (.iload_n 1, 1) := by decide +kernel
theorem dX8_untrue_39 : decode cX8_untrue 39 = .ok (.ireturn, 1) := by decide +kernel
theorem dX8_leaves_0 : decode cX8_leaves 0 = .ok (.aload_n 0, 1) := by decide +kernel
theorem dX8_leaves_1 : decode cX8_leaves 1 = .ok (.iload_n 1, 1) := by decide +kernel
theorem dX8_leaves_2 : decode cX8_leaves 2 = .ok (.invokevirtual 145, 3) := by decide +kernel
theorem dX8_leaves_5 : decode cX8_leaves 5 = .ok (.ifCond .ne 5, 3) := by decide +kernel
theorem dX8_leaves_8 : decode cX8_leaves 8 = .ok (.iconst (-1), 1) := by decide +kernel
theorem dX8_leaves_9 : decode cX8_leaves 9 = .ok (.ireturn, 1) := by decide +kernel
theorem dX8_leaves_10 : decode cX8_leaves 10 = .ok (.iload_n 2, 1) := by decide +kernel
theorem dX8_leaves_11 : decode cX8_leaves 11 = .ok (.ifCond .lt 8, 3) := by decide +kernel
theorem dX8_leaves_14 : decode cX8_leaves 14 = .ok (.iload_n 2, 1) := by decide +kernel
theorem dX8_leaves_15 : decode cX8_leaves 15 = .ok (.iconst 2, 1) := by decide +kernel
theorem dX8_leaves_16 : decode cX8_leaves 16 = .ok (.if_icmp .le 6, 3) := by decide +kernel
theorem dX8_leaves_19 : decode cX8_leaves 19 = .ok (.bipush (-2), 2) := by decide +kernel
theorem dX8_leaves_21 : decode cX8_leaves 21 = .ok (.ireturn, 1) := by decide +kernel
theorem dX8_leaves_22 : decode cX8_leaves 22 = .ok (.iconst 0, 1) := by decide +kernel
theorem dX8_leaves_23 : decode cX8_leaves 23 = .ok (.istore_n 3, 1) := by decide +kernel
theorem dX8_leaves_24 : decode cX8_leaves 24 = .ok (.bipush (-9), 2) := by decide +kernel
theorem dX8_leaves_26 : decode cX8_leaves 26 = .ok (.istore 4, 2) := by decide +kernel
theorem dX8_leaves_28 : decode cX8_leaves 28 = .ok (.bipush (-9), 2) := by decide +kernel
theorem dX8_leaves_30 : decode cX8_leaves 30 = .ok (.istore 5, 2) := by decide +kernel
theorem dX8_leaves_32 : decode cX8_leaves 32 = .ok (.iconst 1, 1) := by decide +kernel
theorem dX8_leaves_33 : decode cX8_leaves 33 = .ok (.istore 6, 2) := by decide +kernel
theorem dX8_leaves_35 : decode cX8_leaves 35 = .ok (.iload 6, 2) := by decide +kernel
theorem dX8_leaves_37 : decode cX8_leaves 37 = .ok (.bipush 99, 2) := by decide +kernel
theorem dX8_leaves_39 : decode cX8_leaves 39 = .ok (.if_icmp .gt 45, 3) := by decide +kernel
theorem dX8_leaves_42 : decode cX8_leaves 42 = .ok (.aload_n 0, 1) := by decide +kernel
theorem dX8_leaves_43 : decode cX8_leaves 43 = .ok (.getfield 39, 3) := by decide +kernel
theorem dX8_leaves_46 : decode cX8_leaves 46 = .ok (.iload_n 1, 1) := by decide +kernel
theorem dX8_leaves_47 : decode cX8_leaves 47 = .ok (.iload 6, 2) := by decide +kernel
theorem dX8_leaves_49 : decode cX8_leaves 49 = .ok (.invokevirtual 216, 3) := by decide +kernel
theorem dX8_leaves_52 : decode cX8_leaves 52 = .ok (.ifCond .eq 26, 3) := by decide +kernel
theorem dX8_leaves_55 : decode cX8_leaves 55 = .ok (.iinc 3 1, 3) := by decide +kernel
theorem dX8_leaves_58 : decode cX8_leaves 58 = .ok (.iload 4, 2) := by decide +kernel
theorem dX8_leaves_60 : decode cX8_leaves 60 = .ok (.bipush (-9), 2) := by decide +kernel
theorem dX8_leaves_62 : decode cX8_leaves 62 = .ok (.if_icmp .ne 8, 3) := by decide +kernel
theorem dX8_leaves_65 : decode cX8_leaves 65 = .ok (.iload 6, 2) := by decide +kernel
theorem dX8_leaves_67 : decode cX8_leaves 67 = .ok (.goto 5, 3) := by decide +kernel
theorem dX8_leaves_70 : decode cX8_leaves 70 = .ok (.iload 4, 2) := by decide +kernel
theorem dX8_leaves_72 : decode cX8_leaves 72 = .ok (.istore 4, 2) := by decide +kernel
theorem dX8_leaves_74 : decode cX8_leaves 74 = .ok (.iload 6, 2) := by decide +kernel
theorem dX8_leaves_76 : decode cX8_leaves 76 = .ok (.istore 5, 2) := by decide +kernel
theorem dX8_leaves_78 : decode cX8_leaves 78 = .ok (.iinc 6 1, 3) := by decide +kernel
theorem dX8_leaves_81 : decode cX8_leaves 81 = .ok (.goto (-46), 3) := by decide +kernel
theorem dX8_leaves_84 : decode cX8_leaves 84 = .ok (.iload_n 2, 1) := by decide +kernel
theorem dX8_leaves_85 : decode cX8_leaves 85 = .ok (.ifCond .ne 5, 3) := by decide +kernel
theorem dX8_leaves_88 : decode cX8_leaves 88 = .ok (.iload_n 3, 1) := by decide +kernel
theorem dX8_leaves_89 : decode cX8_leaves 89 = .ok (.ireturn, 1) := by decide +kernel
theorem dX8_leaves_90 : decode cX8_leaves 90 = .ok (.iload_n 2, 1) := by decide +kernel
theorem dX8_leaves_91 : decode cX8_leaves 91 = .ok (.iconst 1, 1) := by decide +kernel
theorem dX8_leaves_92 : decode cX8_leaves 92 = .ok (.if_icmp .ne 8, 3) := by decide +kernel
theorem dX8_leaves_95 : decode cX8_leaves 95 = .ok (.iload 4, 2) := by decide +kernel
theorem dX8_leaves_97 : decode cX8_leaves 97 = .ok (.goto 5, 3) := by decide +kernel
theorem dX8_leaves_100 : decode cX8_leaves 100 = .ok (.iload 5, 2) := by decide +kernel
theorem dX8_leaves_102 : decode cX8_leaves 102 = .ok (.ireturn, 1) := by decide +kernel
theorem dX8_keep_0 : decode cX8_keep 0 = .ok (.aload_n 0, 1) := by decide +kernel
theorem dX8_keep_1 : decode cX8_keep 1 = .ok (.iload_n 1, 1) := by decide +kernel
theorem dX8_keep_2 : decode cX8_keep 2 = .ok (.invokevirtual 145, 3) := by decide +kernel
theorem dX8_keep_5 : decode cX8_keep 5 = .ok (.ifCond .eq 11, 3) := by decide +kernel
theorem dX8_keep_8 : decode cX8_keep 8 = .ok (.aload_n 0, 1) := by decide +kernel
theorem dX8_keep_9 : decode cX8_keep 9 = .ok (.iload_n 2, 1) := by decide +kernel
theorem dX8_keep_10 : decode cX8_keep 10 = .ok (.invokevirtual 110, 3) := by decide +kernel
theorem dX8_keep_13 : decode cX8_keep 13 = .ok (.ifCond .ne 5, 3) := by decide +kernel
theorem dX8_keep_16 : decode cX8_keep 16 = .ok (.iconst (-1), 1) := by decide +kernel
theorem dX8_keep_17 : decode cX8_keep 17 = .ok (.ireturn, 1) := by decide +kernel
theorem dX8_keep_18 : decode cX8_keep 18 = .ok (.iload_n 3, 1) := by decide +kernel
theorem dX8_keep_19 : decode cX8_keep 19 = .ok (.invokestatic 157, 3) := by decide +kernel
theorem dX8_keep_22 : decode cX8_keep 22 = .ok (.ifCond .ne 6, 3) := by decide +kernel
theorem dX8_keep_25 : decode cX8_keep 25 = .ok (.bipush (-2), 2) := by decide +kernel
theorem dX8_keep_27 : decode cX8_keep 27 = .ok (.ireturn, 1) := by decide +kernel
theorem dX8_keep_28 : decode cX8_keep 28 = .ok (.iload 4, 2) := by decide +kernel
theorem dX8_keep_30 : decode cX8_keep 30 = .ok (.iconst (-1), 1) := by decide +kernel
theorem dX8_keep_31 : decode cX8_keep 31 = .ok (.if_icmp .lt 9, 3) := by decide +kernel
theorem dX8_keep_34 : decode cX8_keep 34 = .ok (.iload 4, 2) := by decide +kernel
theorem dX8_keep_36 : decode cX8_keep 36 = .ok (.iconst 3, 1) := by decide +kernel
theorem dX8_keep_37 : decode cX8_keep 37 = .ok (.if_icmp .lt 5, 3) := by decide +kernel
theorem dX8_keep_40 : decode cX8_keep 40 = .ok (.iconst (-1), 1) := by decide +kernel
theorem dX8_keep_41 : decode cX8_keep 41 = .ok (.ireturn, 1) := by decide +kernel
theorem dX8_keep_42 : decode cX8_keep 42 = .ok (.aload_n 0, 1) := by decide +kernel
theorem dX8_keep_43 : decode cX8_keep 43 = .ok (.getfield 30, 3) := by decide +kernel
theorem dX8_keep_46 : decode cX8_keep 46 = .ok (.iload_n 3, 1) := by decide +kernel
theorem dX8_keep_47 : decode cX8_keep 47 = .ok (.invokevirtual 177, 3) := by decide +kernel
theorem dX8_keep_50 : decode cX8_keep 50 = .ok (.aload_n 0, 1) := by decide +kernel
theorem dX8_keep_51 : decode cX8_keep 51 = .ok (.getfield 48, 3) := by decide +kernel
theorem dX8_keep_54 : decode cX8_keep 54 = .ok (.iload_n 1, 1) := by decide +kernel
theorem dX8_keep_55 : decode cX8_keep 55 = .ok (.iload_n 2, 1) := by decide +kernel
theorem dX8_keep_56 : decode cX8_keep 56 = .ok (.invokevirtual 219, 3) := by decide +kernel
theorem dX8_keep_59 : decode cX8_keep 59 = .ok (.istore 5, 2) := by decide +kernel
theorem dX8_keep_61 : decode cX8_keep 61 = .ok (.iload 5, 2) := by decide +kernel
theorem dX8_keep_63 : decode cX8_keep 63 = .ok (.bipush (-9), 2) := by decide +kernel
theorem dX8_keep_65 : decode cX8_keep 65 = .ok (.if_icmp .ne 6, 3) := by decide +kernel
theorem dX8_keep_68 : decode cX8_keep 68 = .ok (.bipush (-9), 2) := by decide +kernel
theorem dX8_keep_70 : decode cX8_keep 70 = .ok (.ireturn, 1) := by decide +kernel
theorem dX8_keep_71 : decode cX8_keep 71 = .ok (.iload 4, 2) := by decide +kernel
theorem dX8_keep_73 : decode cX8_keep 73 = .ok (.iconst (-1), 1) := by decide +kernel
theorem dX8_keep_74 : decode cX8_keep 74 = .ok (.if_icmp .ne 11, 3) := by decide +kernel
theorem dX8_keep_77 : decode cX8_keep 77 = .ok (.iload 5, 2) := by decide +kernel
theorem dX8_keep_79 : decode cX8_keep 79 = .ok (.invokestatic 222, 3) := by decide +kernel
theorem dX8_keep_82 : decode cX8_keep 82 = .ok (.goto 10, 3) := by decide +kernel
theorem dX8_keep_85 : decode cX8_keep 85 = .ok (.iload 5, 2) := by decide +kernel
theorem dX8_keep_87 : decode cX8_keep 87 = .ok (.iload 4, 2) := by decide +kernel
theorem dX8_keep_89 : decode cX8_keep 89 = .ok (.invokestatic 227, 3) := by decide +kernel
theorem dX8_keep_92 : decode cX8_keep 92 = .ok (.ireturn, 1) := by decide +kernel
theorem dX8_turns_0 : decode cX8_turns 0 = .ok (.iload_n 1, 1) := by decide +kernel
theorem dX8_turns_1 : decode cX8_turns 1 = .ok (.invokestatic 157, 3) := by decide +kernel
theorem dX8_turns_4 : decode cX8_turns 4 = .ok (.ifCond .ne 6, 3) := by decide +kernel
theorem dX8_turns_7 : decode cX8_turns 7 = .ok (.bipush (-2), 2) := by decide +kernel
theorem dX8_turns_9 : decode cX8_turns 9 = .ok (.ireturn, 1) := by decide +kernel
theorem dX8_turns_10 : decode cX8_turns 10 = .ok (.iload_n 2, 1) := by decide +kernel
theorem dX8_turns_11 : decode cX8_turns 11 = .ok (.iconst (-1), 1) := by decide +kernel
theorem dX8_turns_12 : decode cX8_turns 12 = .ok (.if_icmp .eq 13, 3) := by decide +kernel
theorem dX8_turns_15 : decode cX8_turns 15 = .ok (.aload_n 0, 1) := by decide +kernel
theorem dX8_turns_16 : decode cX8_turns 16 = .ok (.iload_n 2, 1) := by decide +kernel
theorem dX8_turns_17 : decode cX8_turns 17 = .ok (.invokevirtual 145, 3) := by decide +kernel
theorem dX8_turns_20 : decode cX8_turns 20 = .ok (.ifCond .ne 5, 3) := by decide +kernel
theorem dX8_turns_23 : decode cX8_turns 23 = .ok (.iconst (-1), 1) := by decide +kernel
theorem dX8_turns_24 : decode cX8_turns 24 = .ok (.ireturn, 1) := by decide +kernel
theorem dX8_turns_25 : decode cX8_turns 25 = .ok (.aload_n 0, 1) := by decide +kernel
theorem dX8_turns_26 : decode cX8_turns 26 = .ok (.getfield 30, 3) := by decide +kernel
theorem dX8_turns_29 : decode cX8_turns 29 = .ok (.iload_n 1, 1) := by decide +kernel
theorem dX8_turns_30 : decode cX8_turns 30 = .ok (.invokevirtual 177, 3) := by decide +kernel
theorem dX8_turns_33 : decode cX8_turns 33 = .ok (.aload_n 0, 1) := by decide +kernel
theorem dX8_turns_34 : decode cX8_turns 34 = .ok (.getfield 55, 3) := by decide +kernel
theorem dX8_turns_37 : decode cX8_turns 37 = .ok (.invokevirtual 230, 3) := by decide +kernel
theorem dX8_turns_40 : decode cX8_turns 40 = .ok (.istore_n 3, 1) := by decide +kernel
theorem dX8_turns_41 : decode cX8_turns 41 = .ok (.iload_n 2, 1) := by decide +kernel
theorem dX8_turns_42 : decode cX8_turns 42 = .ok (.iconst (-1), 1) := by decide +kernel
theorem dX8_turns_43 : decode cX8_turns 43 = .ok (.if_icmp .ne 7, 3) := by decide +kernel
theorem dX8_turns_46 : decode cX8_turns 46 = .ok (.iload_n 3, 1) := by decide +kernel
theorem dX8_turns_47 : decode cX8_turns 47 = .ok (.goto 12, 3) := by decide +kernel
theorem dX8_turns_50 : decode cX8_turns 50 = .ok (.aload_n 0, 1) := by decide +kernel
theorem dX8_turns_51 : decode cX8_turns 51 = .ok (.getfield 55, 3) := by decide +kernel
theorem dX8_turns_54 : decode cX8_turns 54 = .ok (.getfield 234, 3) := by decide +kernel
theorem dX8_turns_57 : decode cX8_turns 57 = .ok (.iload_n 2, 1) := by decide +kernel
theorem dX8_turns_58 : decode cX8_turns 58 = .ok (.iaload, 1) := by decide +kernel
theorem dX8_turns_59 : decode cX8_turns 59 = .ok (.ireturn, 1) := by decide +kernel
theorem dX8_settles_0 : decode cX8_settles 0 = .ok (.iload_n 1, 1) := by decide +kernel
theorem dX8_settles_1 : decode cX8_settles 1 = .ok (.invokestatic 157, 3) := by decide +kernel
theorem dX8_settles_4 : decode cX8_settles 4 = .ok (.ifCond .eq 10, 3) := by decide +kernel
theorem dX8_settles_7 : decode cX8_settles 7 = .ok (.iload_n 2, 1) := by decide +kernel
theorem dX8_settles_8 : decode cX8_settles 8 = .ok (.invokestatic 160, 3) := by decide +kernel
theorem dX8_settles_11 : decode cX8_settles 11 = .ok (.ifCond .ne 6, 3) := by decide +kernel
theorem dX8_settles_14 : decode cX8_settles 14 = .ok (.bipush (-2), 2) := by decide +kernel
theorem dX8_settles_16 : decode cX8_settles 16 = .ok (.ireturn, 1) := by decide +kernel
theorem dX8_settles_17 : decode cX8_settles 17 = .ok (.aload_n 0, 1) := by decide +kernel
theorem dX8_settles_18 : decode cX8_settles 18 = .ok (.getfield 21, 3) := by decide +kernel
theorem dX8_settles_21 : decode cX8_settles 21 = .ok (.getfield 100, 3) := by decide +kernel
theorem dX8_settles_24 : decode cX8_settles 24 = .ok (.ifCond .ne 6, 3) := by decide +kernel
theorem dX8_settles_27 : decode cX8_settles 27 = .ok (.bipush (-3), 2) := by decide +kernel
theorem dX8_settles_29 : decode cX8_settles 29 = .ok (.ireturn, 1) := by decide +kernel
theorem dX8_settles_30 : decode cX8_settles 30 = .ok (.aload_n 0, 1) := by decide +kernel
theorem dX8_settles_31 : decode cX8_settles 31 = .ok (.getfield 30, 3) := by decide +kernel
theorem dX8_settles_34 : decode cX8_settles 34 = .ok (.iload_n 1, 1) := by decide +kernel
theorem dX8_settles_35 : decode cX8_settles 35 = .ok (.invokevirtual 177, 3) := by decide +kernel
theorem dX8_settles_38 : decode cX8_settles 38 = .ok (.aload_n 0, 1) := by decide +kernel
theorem dX8_settles_39 : decode cX8_settles 39 = .ok (.getfield 62, 3) := by decide +kernel
theorem dX8_settles_42 : decode cX8_settles 42 = .ok (.invokevirtual 237, 3) := by decide +kernel
theorem dX8_settles_45 : decode cX8_settles 45 = .ok (.iload_n 2, 1) := by decide +kernel
theorem dX8_settles_46 : decode cX8_settles 46 = .ok (.ifCond .ne 13, 3) := by decide +kernel
theorem dX8_settles_49 : decode cX8_settles 49 = .ok (.aload_n 0, 1) := by decide +kernel
theorem dX8_settles_50 : decode cX8_settles 50 = .ok (.getfield 62, 3) := by decide +kernel
theorem dX8_settles_53 : decode cX8_settles 53 = .ok (.getfield 240, 3) := by decide +kernel
theorem dX8_settles_56 : decode cX8_settles 56 = .ok (.goto 10, 3) := by decide +kernel
theorem dX8_settles_59 : decode cX8_settles 59 = .ok (.aload_n 0, 1) := by decide +kernel
theorem dX8_settles_60 : decode cX8_settles 60 = .ok (.getfield 62, 3) := by decide +kernel
theorem dX8_settles_63 : decode cX8_settles 63 = .ok (.getfield 243, 3) := by decide +kernel
theorem dX8_settles_66 : decode cX8_settles 66 = .ok (.ireturn, 1) := by decide +kernel
theorem dX8_after_0 : decode cX8_after 0 = .ok (.aload_n 0, 1) := by decide +kernel
theorem dX8_after_1 : decode cX8_after 1 = .ok (.iload_n 1, 1) := by decide +kernel
theorem dX8_after_2 : decode cX8_after 2 = .ok (.invokevirtual 145, 3) := by decide +kernel
theorem dX8_after_5 : decode cX8_after 5 = .ok (.ifCond .ne 5, 3) := by decide +kernel
theorem dX8_after_8 : decode cX8_after 8 = .ok (.iconst (-1), 1) := by decide +kernel
theorem dX8_after_9 : decode cX8_after 9 = .ok (.ireturn, 1) := by decide +kernel
theorem dX8_after_10 : decode cX8_after 10 = .ok (.iload_n 2, 1) := by decide +kernel
theorem dX8_after_11 : decode cX8_after 11 = .ok (.invokestatic 157, 3) := by decide +kernel
theorem dX8_after_14 : decode cX8_after 14 = .ok (.ifCond .eq 14, 3) := by decide +kernel
theorem dX8_after_17 : decode cX8_after 17 = .ok (.iload_n 3, 1) := by decide +kernel
theorem dX8_after_18 : decode cX8_after 18 = .ok (.ifCond .lt 10, 3) := by decide +kernel
theorem dX8_after_21 : decode cX8_after 21 = .ok (.iload_n 3, 1) := by decide +kernel
theorem dX8_after_22 : decode cX8_after 22 = .ok (.sipush 200, 3) := by decide +kernel
theorem dX8_after_25 : decode cX8_after 25 = .ok (.if_icmp .le 6, 3) := by decide +kernel
theorem dX8_after_28 : decode cX8_after 28 = .ok (.bipush (-2), 2) := by decide +kernel
theorem dX8_after_30 : decode cX8_after 30 = .ok (.ireturn, 1) := by decide +kernel
theorem dX8_after_31 : decode cX8_after 31 = .ok (.aload_n 0, 1) := by decide +kernel
theorem dX8_after_32 : decode cX8_after 32 = .ok (.getfield 30, 3) := by decide +kernel
theorem dX8_after_35 : decode cX8_after 35 = .ok (.iload_n 2, 1) := by decide +kernel
theorem dX8_after_36 : decode cX8_after 36 = .ok (.invokevirtual 177, 3) := by decide +kernel
theorem dX8_after_39 : decode cX8_after 39 = .ok (.aload_n 0, 1) := by decide +kernel
theorem dX8_after_40 : decode cX8_after 40 = .ok (.getfield 62, 3) := by decide +kernel
theorem dX8_after_43 : decode cX8_after 43 = .ok (.iload_n 3, 1) := by decide +kernel
theorem dX8_after_44 : decode cX8_after 44 = .ok (.invokevirtual 246, 3) := by decide +kernel
theorem dX8_after_47 : decode cX8_after 47 = .ok (.aload_n 0, 1) := by decide +kernel
theorem dX8_after_48 : decode cX8_after 48 = .ok (.getfield 62, 3) := by decide +kernel
theorem dX8_after_51 : decode cX8_after 51 = .ok (.getfield 249, 3) := by decide +kernel
theorem dX8_after_54 : decode cX8_after 54 = .ok (.iload_n 1, 1) := by decide +kernel
theorem dX8_after_55 : decode cX8_after 55 = .ok (.iaload, 1) := by decide +kernel
theorem dX8_after_56 : decode cX8_after 56 = .ok (.ireturn, 1) := by decide +kernel
theorem dX8_sheet_0 : decode cX8_sheet 0 = .ok (.aload_n 0, 1) := by decide +kernel
theorem dX8_sheet_1 : decode cX8_sheet 1 = .ok (.iconst 0, 1) := by decide +kernel
theorem dX8_sheet_2 : decode cX8_sheet 2 = .ok (.putfield 73, 3) := by decide +kernel
theorem dX8_sheet_5 : decode cX8_sheet 5 = .ok (.iload_n 1, 1) := by decide +kernel
theorem dX8_sheet_6 : decode cX8_sheet 6 = .ok (.invokestatic 77, 3) := by decide +kernel
theorem dX8_sheet_9 : decode cX8_sheet 9 = .ok (.ifCond .ne 5, 3) := by decide +kernel
theorem dX8_sheet_12 : decode cX8_sheet 12 = .ok (.iconst (-1), 1) := by decide +kernel
theorem dX8_sheet_13 : decode cX8_sheet 13 = .ok (.ireturn, 1) := by decide +kernel
theorem dX8_sheet_14 : decode cX8_sheet 14 = .ok (.iload_n 2, 1) := by decide +kernel
theorem dX8_sheet_15 : decode cX8_sheet 15 = .ok (.invokestatic 81, 3) := by decide +kernel
theorem dX8_sheet_18 : decode cX8_sheet 18 = .ok (.ifCond .eq 9, 3) := by decide +kernel
theorem dX8_sheet_21 : decode cX8_sheet 21 = .ok (.iload_n 3, 1) := by decide +kernel
theorem dX8_sheet_22 : decode cX8_sheet 22 = .ok (.bipush 60, 2) := by decide +kernel
theorem dX8_sheet_24 : decode cX8_sheet 24 = .ok (.if_icmp .le 6, 3) := by decide +kernel
theorem dX8_sheet_27 : decode cX8_sheet 27 = .ok (.bipush (-2), 2) := by decide +kernel
theorem dX8_sheet_29 : decode cX8_sheet 29 = .ok (.ireturn, 1) := by decide +kernel
theorem dX8_sheet_30 : decode cX8_sheet 30 = .ok (.iload_n 3, 1) := by decide +kernel
theorem dX8_sheet_31 : decode cX8_sheet 31 = .ok (.ifCond .ge 9, 3) := by decide +kernel
theorem dX8_sheet_34 : decode cX8_sheet 34 = .ok (.aload_n 0, 1) := by decide +kernel
theorem dX8_sheet_35 : decode cX8_sheet 35 = .ok (.iconst 4, 1) := by decide +kernel
theorem dX8_sheet_36 : decode cX8_sheet 36 = .ok (.invokevirtual 250, 3) := by decide +kernel
theorem dX8_sheet_39 : decode cX8_sheet 39 = .ok (.ireturn, 1) := by decide +kernel
theorem dX8_sheet_40 : decode cX8_sheet 40 = .ok (.aload_n 0, 1) := by decide +kernel
theorem dX8_sheet_41 : decode cX8_sheet 41 = .ok (.getfield 68, 3) := by decide +kernel
theorem dX8_sheet_44 : decode cX8_sheet 44 = .ok (.iload_n 1, 1) := by decide +kernel
theorem dX8_sheet_45 : decode cX8_sheet 45 = .ok (.aaload, 1) := by decide +kernel
theorem dX8_sheet_46 : decode cX8_sheet 46 = .ok (.iload_n 2, 1) := by decide +kernel
theorem dX8_sheet_47 : decode cX8_sheet 47 = .ok (.iload_n 3, 1) := by decide +kernel
theorem dX8_sheet_48 : decode cX8_sheet 48 = .ok (.invokevirtual 253, 3) := by decide +kernel
theorem dX8_sheet_51 : decode cX8_sheet 51 = .ok (.iconst 1, 1) := by decide +kernel
theorem dX8_sheet_52 : decode cX8_sheet 52 = .ok (.ireturn, 1) := by decide +kernel
theorem dX8_lose_0 : decode cX8_lose 0 = .ok (.iload_n 1, 1) := by decide +kernel
theorem dX8_lose_1 : decode cX8_lose 1 = .ok (.invokestatic 77, 3) := by decide +kernel
theorem dX8_lose_4 : decode cX8_lose 4 = .ok (.ifCond .ne 5, 3) := by decide +kernel
theorem dX8_lose_7 : decode cX8_lose 7 = .ok (.iconst (-1), 1) := by decide +kernel
theorem dX8_lose_8 : decode cX8_lose 8 = .ok (.ireturn, 1) := by decide +kernel
theorem dX8_lose_9 : decode cX8_lose 9 = .ok (.aload_n 0, 1) := by decide +kernel
theorem dX8_lose_10 : decode cX8_lose 10 = .ok (.getfield 68, 3) := by decide +kernel
theorem dX8_lose_13 : decode cX8_lose 13 = .ok (.iload_n 1, 1) := by decide +kernel
theorem dX8_lose_14 : decode cX8_lose 14 = .ok (.aaload, 1) := by decide +kernel
theorem dX8_lose_15 : decode cX8_lose 15 = .ok (.astore_n 2, 1) := by decide +kernel
theorem dX8_lose_16 : decode cX8_lose 16 = .ok (.aload_n 2, 1) := by decide +kernel
theorem dX8_lose_17 : decode cX8_lose 17 = .ok (.getfield 257, 3) := by decide +kernel
theorem dX8_lose_20 : decode cX8_lose 20 = .ok (.ifCond .ne 5, 3) := by decide +kernel
theorem dX8_lose_23 : decode cX8_lose 23 = .ok (.iconst 0, 1) := by decide +kernel
theorem dX8_lose_24 : decode cX8_lose 24 = .ok (.ireturn, 1) := by decide +kernel
theorem dX8_lose_25 : decode cX8_lose 25 = .ok (.aload_n 2, 1) := by decide +kernel
theorem dX8_lose_26 : decode cX8_lose 26 = .ok (.iconst 0, 1) := by decide +kernel
theorem dX8_lose_27 : decode cX8_lose 27 = .ok (.putfield 257, 3) := by decide +kernel
theorem dX8_lose_30 : decode cX8_lose 30 = .ok (.iconst 1, 1) := by decide +kernel
theorem dX8_lose_31 : decode cX8_lose 31 = .ok (.ireturn, 1) := by decide +kernel
theorem dX8_put_0 : decode cX8_put 0 = .ok (.aload_n 0, 1) := by decide +kernel
theorem dX8_put_1 : decode cX8_put 1 = .ok (.iconst 0, 1) := by decide +kernel
theorem dX8_put_2 : decode cX8_put 2 = .ok (.putfield 73, 3) := by decide +kernel
theorem dX8_put_5 : decode cX8_put 5 = .ok (.iload_n 1, 1) := by decide +kernel
theorem dX8_put_6 : decode cX8_put 6 = .ok (.invokestatic 77, 3) := by decide +kernel
theorem dX8_put_9 : decode cX8_put 9 = .ok (.ifCond .ne 5, 3) := by decide +kernel
theorem dX8_put_12 : decode cX8_put 12 = .ok (.iconst (-1), 1) := by decide +kernel
theorem dX8_put_13 : decode cX8_put 13 = .ok (.ireturn, 1) := by decide +kernel
theorem dX8_put_14 : decode cX8_put 14 = .ok (.aload_n 0, 1) := by decide +kernel
theorem dX8_put_15 : decode cX8_put 15 = .ok (.getfield 68, 3) := by decide +kernel
theorem dX8_put_18 : decode cX8_put 18 = .ok (.iload_n 1, 1) := by decide +kernel
theorem dX8_put_19 : decode cX8_put 19 = .ok (.aaload, 1) := by decide +kernel
theorem dX8_put_20 : decode cX8_put 20 = .ok (.astore 4, 2) := by decide +kernel
theorem dX8_put_22 : decode cX8_put 22 = .ok (.aload 4, 2) := by decide +kernel
theorem dX8_put_24 : decode cX8_put 24 = .ok (.getfield 257, 3) := by decide +kernel
theorem dX8_put_27 : decode cX8_put 27 = .ok (.ifCond .ne 9, 3) := by decide +kernel
theorem dX8_put_30 : decode cX8_put 30 = .ok (.aload_n 0, 1) := by decide +kernel
theorem dX8_put_31 : decode cX8_put 31 = .ok (.iconst 1, 1) := by decide +kernel
theorem dX8_put_32 : decode cX8_put 32 = .ok (.invokevirtual 250, 3) := by decide +kernel
theorem dX8_put_35 : decode cX8_put 35 = .ok (.ireturn, 1) := by decide +kernel
theorem dX8_put_36 : decode cX8_put 36 = .ok (.aload 4, 2) := by decide +kernel
theorem dX8_put_38 : decode cX8_put 38 = .ok (.iload_n 2, 1) := by decide +kernel
theorem dX8_put_39 : decode cX8_put 39 = .ok (.invokevirtual 261, 3) := by decide +kernel
theorem dX8_put_42 : decode cX8_put 42 = .ok (.ifCond .ne 9, 3) := by decide +kernel
theorem dX8_put_45 : decode cX8_put 45 = .ok (.aload_n 0, 1) := by decide +kernel
theorem dX8_put_46 : decode cX8_put 46 = .ok (.iconst 3, 1) := by decide +kernel
theorem dX8_put_47 : decode cX8_put 47 = .ok (.invokevirtual 250, 3) := by decide +kernel
theorem dX8_put_50 : decode cX8_put 50 = .ok (.ireturn, 1) := by decide +kernel
theorem dX8_put_51 : decode cX8_put 51 = .ok (.aload 4, 2) := by decide +kernel
theorem dX8_put_53 : decode cX8_put 53 = .ok (.getfield 88, 3) := by decide +kernel
theorem dX8_put_56 : decode cX8_put 56 = .ok (.iload_n 2, 1) := by decide +kernel
theorem dX8_put_57 : decode cX8_put 57 = .ok (.aload 4, 2) := by decide +kernel
theorem dX8_put_59 : decode cX8_put 59 = .ok (.iload_n 3, 1) := by decide +kernel
theorem dX8_put_60 : decode cX8_put 60 = .ok (.invokevirtual 264, 3) := by decide +kernel
theorem dX8_put_63 : decode cX8_put 63 = .ok (.iastore, 1) := by decide +kernel
theorem dX8_put_64 : decode cX8_put 64 = .ok (.iconst 1, 1) := by decide +kernel
theorem dX8_put_65 : decode cX8_put 65 = .ok (.ireturn, 1) := by decide +kernel
theorem dX8_cell_0 : decode cX8_cell 0 = .ok (.aload_n 0, 1) := by decide +kernel
theorem dX8_cell_1 : decode cX8_cell 1 = .ok (.iconst 0, 1) := by decide +kernel
theorem dX8_cell_2 : decode cX8_cell 2 = .ok (.putfield 73, 3) := by decide +kernel
theorem dX8_cell_5 : decode cX8_cell 5 = .ok (.iload_n 1, 1) := by decide +kernel
theorem dX8_cell_6 : decode cX8_cell 6 = .ok (.invokestatic 77, 3) := by decide +kernel
theorem dX8_cell_9 : decode cX8_cell 9 = .ok (.ifCond .eq 10, 3) := by decide +kernel
theorem dX8_cell_12 : decode cX8_cell 12 = .ok (.iload_n 3, 1) := by decide +kernel
theorem dX8_cell_13 : decode cX8_cell 13 = .ok (.invokestatic 81, 3) := by decide +kernel
theorem dX8_cell_16 : decode cX8_cell 16 = .ok (.ifCond .ne 7, 3) := by decide +kernel
theorem dX8_cell_19 : decode cX8_cell 19 = .ok (.ldc2_w 163, 3) := by decide +kernel
theorem dX8_cell_22 : decode cX8_cell 22 = .ok (.lreturn, 1) := by decide +kernel
theorem dX8_cell_23 : decode cX8_cell 23 = .ok (.aload_n 0, 1) := by decide +kernel
theorem dX8_cell_24 : decode cX8_cell 24 = .ok (.getfield 68, 3) := by decide +kernel
theorem dX8_cell_27 : decode cX8_cell 27 = .ok (.iload_n 1, 1) := by decide +kernel
theorem dX8_cell_28 : decode cX8_cell 28 = .ok (.aaload, 1) := by decide +kernel
theorem dX8_cell_29 : decode cX8_cell 29 = .ok (.astore 4, 2) := by decide +kernel
theorem dX8_cell_31 : decode cX8_cell 31 = .ok (.aload_n 0, 1) := by decide +kernel
theorem dX8_cell_32 : decode cX8_cell 32 = .ok (.aload 4, 2) := by decide +kernel
theorem dX8_cell_34 : decode cX8_cell 34 = .ok (.iload_n 3, 1) := by decide +kernel
theorem dX8_cell_35 : decode cX8_cell 35 = .ok (.invokevirtual 267, 3) := by decide +kernel
theorem dX8_cell_38 : decode cX8_cell 38 = .ok (.putfield 73, 3) := by decide +kernel
theorem dX8_cell_41 : decode cX8_cell 41 = .ok (.aload_n 0, 1) := by decide +kernel
theorem dX8_cell_42 : decode cX8_cell 42 = .ok (.getfield 73, 3) := by decide +kernel
theorem dX8_cell_45 : decode cX8_cell 45 = .ok (.ifCond .ne 17, 3) := by decide +kernel
theorem dX8_cell_48 : decode cX8_cell 48 = .ok (.aload 4, 2) := by decide +kernel
theorem dX8_cell_50 : decode cX8_cell 50 = .ok (.iload_n 2, 1) := by decide +kernel
theorem dX8_cell_51 : decode cX8_cell 51 = .ok (.invokevirtual 261, 3) := by decide +kernel
theorem dX8_cell_54 : decode cX8_cell 54 = .ok (.ifCond .ne 8, 3) := by decide +kernel
theorem dX8_cell_57 : decode cX8_cell 57 = .ok (.aload_n 0, 1) := by decide +kernel
theorem dX8_cell_58 : decode cX8_cell 58 = .ok (.iconst 3, 1) := by decide +kernel
theorem dX8_cell_59 : decode cX8_cell 59 = .ok (.putfield 73, 3) := by decide +kernel
theorem dX8_cell_62 : decode cX8_cell 62 = .ok (.aload_n 0, 1) := by decide +kernel
theorem dX8_cell_63 : decode cX8_cell 63 = .ok (.getfield 73, 3) := by decide +kernel
theorem dX8_cell_66 : decode cX8_cell 66 = .ok (.ifCond .ne 14, 3) := by decide +kernel
theorem dX8_cell_69 : decode cX8_cell 69 = .ok (.aload 4, 2) := by decide +kernel
theorem dX8_cell_71 : decode cX8_cell 71 = .ok (.getfield 88, 3) := by decide +kernel
theorem dX8_cell_74 : decode cX8_cell 74 = .ok (.iload_n 2, 1) := by decide +kernel
theorem dX8_cell_75 : decode cX8_cell 75 = .ok (.iaload, 1) := by decide +kernel
theorem dX8_cell_76 : decode cX8_cell 76 = .ok (.i2l, 1) := by decide +kernel
theorem dX8_cell_77 : decode cX8_cell 77 = .ok (.goto 6, 3) := by decide +kernel
theorem dX8_cell_80 : decode cX8_cell 80 = .ok (.ldc2_w 163, 3) := by decide +kernel
theorem dX8_cell_83 : decode cX8_cell 83 = .ok (.lreturn, 1) := by decide +kernel
theorem dX8_copy_0 : decode cX8_copy 0 = .ok (.aload_n 0, 1) := by decide +kernel
theorem dX8_copy_1 : decode cX8_copy 1 = .ok (.iconst 0, 1) := by decide +kernel
theorem dX8_copy_2 : decode cX8_copy 2 = .ok (.putfield 73, 3) := by decide +kernel
theorem dX8_copy_5 : decode cX8_copy 5 = .ok (.iload_n 1, 1) := by decide +kernel
theorem dX8_copy_6 : decode cX8_copy 6 = .ok (.invokestatic 77, 3) := by decide +kernel
theorem dX8_copy_9 : decode cX8_copy 9 = .ok (.ifCond .eq 10, 3) := by decide +kernel
theorem dX8_copy_12 : decode cX8_copy 12 = .ok (.iload_n 3, 1) := by decide +kernel
theorem dX8_copy_13 : decode cX8_copy 13 = .ok (.invokestatic 77, 3) := by decide +kernel
theorem dX8_copy_16 : decode cX8_copy 16 = .ok (.ifCond .ne 5, 3) := by decide +kernel
theorem dX8_copy_19 : decode cX8_copy 19 = .ok (.iconst (-1), 1) := by decide +kernel
theorem dX8_copy_20 : decode cX8_copy 20 = .ok (.ireturn, 1) := by decide +kernel
theorem dX8_copy_21 : decode cX8_copy 21 = .ok (.aload_n 0, 1) := by decide +kernel
theorem dX8_copy_22 : decode cX8_copy 22 = .ok (.getfield 68, 3) := by decide +kernel
theorem dX8_copy_25 : decode cX8_copy 25 = .ok (.iload_n 1, 1) := by decide +kernel
theorem dX8_copy_26 : decode cX8_copy 26 = .ok (.aaload, 1) := by decide +kernel
theorem dX8_copy_27 : decode cX8_copy 27 = .ok (.astore 6, 2) := by decide +kernel
theorem dX8_copy_29 : decode cX8_copy 29 = .ok (.aload_n 0, 1) := by decide +kernel
theorem dX8_copy_30 : decode cX8_copy 30 = .ok (.getfield 68, 3) := by decide +kernel
theorem dX8_copy_33 : decode cX8_copy 33 = .ok (.iload_n 3, 1) := by decide +kernel
theorem dX8_copy_34 : decode cX8_copy 34 = .ok (.aaload, 1) := by decide +kernel
theorem dX8_copy_35 : decode cX8_copy 35 = .ok (.astore 7, 2) := by decide +kernel
theorem dX8_copy_37 : decode cX8_copy 37 = .ok (.aload 6, 2) := by decide +kernel
theorem dX8_copy_39 : decode cX8_copy 39 = .ok (.getfield 257, 3) := by decide +kernel
theorem dX8_copy_42 : decode cX8_copy 42 = .ok (.ifCond .eq 11, 3) := by decide +kernel
theorem dX8_copy_45 : decode cX8_copy 45 = .ok (.aload 7, 2) := by decide +kernel
theorem dX8_copy_47 : decode cX8_copy 47 = .ok (.getfield 257, 3) := by decide +kernel
theorem dX8_copy_50 : decode cX8_copy 50 = .ok (.ifCond .ne 9, 3) := by decide +kernel
theorem dX8_copy_53 : decode cX8_copy 53 = .ok (.aload_n 0, 1) := by decide +kernel
theorem dX8_copy_54 : decode cX8_copy 54 = .ok (.iconst 1, 1) := by decide +kernel
theorem dX8_copy_55 : decode cX8_copy 55 = .ok (.invokevirtual 250, 3) := by decide +kernel
theorem dX8_copy_58 : decode cX8_copy 58 = .ok (.ireturn, 1) := by decide +kernel
theorem dX8_copy_59 : decode cX8_copy 59 = .ok (.aload 6, 2) := by decide +kernel
theorem dX8_copy_61 : decode cX8_copy 61 = .ok (.getfield 270, 3) := by decide +kernel
theorem dX8_copy_64 : decode cX8_copy 64 = .ok (.aload 7, 2) := by decide +kernel
theorem dX8_copy_66 : decode cX8_copy 66 = .ok (.getfield 270, 3) := by decide +kernel
theorem dX8_copy_69 : decode cX8_copy 69 = .ok (.if_icmp .eq 9, 3) := by decide +kernel
theorem dX8_copy_72 : decode cX8_copy 72 = .ok (.aload_n 0, 1) := by decide +kernel
theorem dX8_copy_73 : decode cX8_copy 73 = .ok (.iconst 2, 1) := by decide +kernel
theorem dX8_copy_74 : decode cX8_copy 74 = .ok (.invokevirtual 250, 3) := by decide +kernel
theorem dX8_copy_77 : decode cX8_copy 77 = .ok (.ireturn, 1) := by decide +kernel
theorem dX8_copy_78 : decode cX8_copy 78 = .ok (.aload 6, 2) := by decide +kernel
theorem dX8_copy_80 : decode cX8_copy 80 = .ok (.iload_n 2, 1) := by decide +kernel
theorem dX8_copy_81 : decode cX8_copy 81 = .ok (.iload 5, 2) := by decide +kernel
theorem dX8_copy_83 : decode cX8_copy 83 = .ok (.invokevirtual 273, 3) := by decide +kernel
theorem dX8_copy_86 : decode cX8_copy 86 = .ok (.ifCond .eq 15, 3) := by decide +kernel
theorem dX8_copy_89 : decode cX8_copy 89 = .ok (.aload 7, 2) := by decide +kernel
theorem dX8_copy_91 : decode cX8_copy 91 = .ok (.iload 4, 2) := by decide +kernel
theorem dX8_copy_93 : decode cX8_copy 93 = .ok (.iload 5, 2) := by decide +kernel
theorem dX8_copy_95 : decode cX8_copy 95 = .ok (.invokevirtual 273, 3) := by decide +kernel
theorem dX8_copy_98 : decode cX8_copy 98 = .ok (.ifCond .ne 9, 3) := by decide +kernel
theorem dX8_copy_101 : decode cX8_copy 101 = .ok (.aload_n 0, 1) := by decide +kernel
theorem dX8_copy_102 : decode cX8_copy 102 = .ok (.iconst 3, 1) := by decide +kernel
theorem dX8_copy_103 : decode cX8_copy 103 = .ok (.invokevirtual 250, 3) := by decide +kernel
theorem dX8_copy_106 : decode cX8_copy 106 = .ok (.ireturn, 1) := by decide +kernel
theorem dX8_copy_107 : decode cX8_copy 107 = .ok (.aload 6, 2) := by decide +kernel
theorem dX8_copy_109 : decode cX8_copy 109 = .ok (.getfield 88, 3) := by decide +kernel
theorem dX8_copy_112 : decode cX8_copy 112 = .ok (.iload_n 2, 1) := by decide +kernel
theorem dX8_copy_113 : decode cX8_copy 113 = .ok (.aload 7, 2) := by decide +kernel
theorem dX8_copy_115 : decode cX8_copy 115 = .ok (.getfield 88, 3) := by decide +kernel
theorem dX8_copy_118 : decode cX8_copy 118 = .ok (.iload 4, 2) := by decide +kernel
theorem dX8_copy_120 : decode cX8_copy 120 = .ok (.iload 5, 2) := by decide +kernel
theorem dX8_copy_122 : decode cX8_copy 122 = .ok (.invokestatic 276, 3) := by decide +kernel
theorem dX8_copy_125 : decode cX8_copy 125 = .ok (.iload 5, 2) := by decide +kernel
theorem dX8_copy_127 : decode cX8_copy 127 = .ok (.ireturn, 1) := by decide +kernel
theorem dX8_tell_0 : decode cX8_tell 0 = .ok (.aload_n 0, 1) := by decide +kernel
theorem dX8_tell_1 : decode cX8_tell 1 = .ok (.iload_n 1, 1) := by decide +kernel
theorem dX8_tell_2 : decode cX8_tell 2 = .ok (.invokevirtual 145, 3) := by decide +kernel
theorem dX8_tell_5 : decode cX8_tell 5 = .ok (.ifCond .ne 5, 3) := by decide +kernel
theorem dX8_tell_8 : decode cX8_tell 8 = .ok (.iconst (-1), 1) := by decide +kernel
theorem dX8_tell_9 : decode cX8_tell 9 = .ok (.ireturn, 1) := by decide +kernel
theorem dX8_tell_10 : decode cX8_tell 10 = .ok (.aload_n 0, 1) := by decide +kernel
theorem dX8_tell_11 : decode cX8_tell 11 = .ok (.getfield 21, 3) := by decide +kernel
theorem dX8_tell_14 : decode cX8_tell 14 = .ok (.getfield 148, 3) := by decide +kernel
theorem dX8_tell_17 : decode cX8_tell 17 = .ok (.iload_n 1, 1) := by decide +kernel
theorem dX8_tell_18 : decode cX8_tell 18 = .ok (.iaload, 1) := by decide +kernel
theorem dX8_tell_19 : decode cX8_tell 19 = .ok (.iconst 2, 1) := by decide +kernel
theorem dX8_tell_20 : decode cX8_tell 20 = .ok (.if_icmp .ne 9, 3) := by decide +kernel
theorem dX8_tell_23 : decode cX8_tell 23 = .ok (.aload_n 0, 1) := by decide +kernel
theorem dX8_tell_24 : decode cX8_tell 24 = .ok (.iload_n 1, 1) := by decide +kernel
theorem dX8_tell_25 : decode cX8_tell 25 = .ok (.invokevirtual 282, 3) := by decide +kernel
theorem dX8_tell_28 : decode cX8_tell 28 = .ok (.ireturn, 1) := by decide +kernel
theorem dX8_tell_29 : decode cX8_tell 29 = .ok (.aload_n 0, 1) := by decide +kernel
theorem dX8_tell_30 : decode cX8_tell 30 = .ok (.getfield 21, 3) := by decide +kernel
theorem dX8_tell_33 : decode cX8_tell 33 = .ok (.getfield 148, 3) := by decide +kernel
theorem dX8_tell_36 : decode cX8_tell 36 = .ok (.iload_n 1, 1) := by decide +kernel
theorem dX8_tell_37 : decode cX8_tell 37 = .ok (.iaload, 1) := by decide +kernel
theorem dX8_tell_38 : decode cX8_tell 38 = .ok (.iconst 1, 1) := by decide +kernel
theorem dX8_tell_39 : decode cX8_tell 39 = .ok (.if_icmp .ne 11, 3) := by decide +kernel
theorem dX8_tell_42 : decode cX8_tell 42 = .ok (.aload_n 0, 1) := by decide +kernel
theorem dX8_tell_43 : decode cX8_tell 43 = .ok (.iload_n 1, 1) := by decide +kernel
theorem dX8_tell_44 : decode cX8_tell 44 = .ok (.invokevirtual 285, 3) := by decide +kernel
theorem dX8_tell_47 : decode cX8_tell 47 = .ok (.goto 8, 3) := by decide +kernel
theorem dX8_tell_50 : decode cX8_tell 50 = .ok (.aload_n 0, 1) := by decide +kernel
theorem dX8_tell_51 : decode cX8_tell 51 = .ok (.iload_n 1, 1) := by decide +kernel
theorem dX8_tell_52 : decode cX8_tell 52 = .ok (.invokevirtual 288, 3) := by decide +kernel
theorem dX8_tell_55 : decode cX8_tell 55 = .ok (.ireturn, 1) := by decide +kernel
theorem dX8_bless_0 : decode cX8_bless 0 = .ok (.aload_n 0, 1) := by decide +kernel
theorem dX8_bless_1 : decode cX8_bless 1 = .ok (.iload_n 1, 1) := by decide +kernel
theorem dX8_bless_2 : decode cX8_bless 2 = .ok (.invokevirtual 145, 3) := by decide +kernel
theorem dX8_bless_5 : decode cX8_bless 5 = .ok (.ifCond .ne 5, 3) := by decide +kernel
theorem dX8_bless_8 : decode cX8_bless 8 = .ok (.iconst (-1), 1) := by decide +kernel
theorem dX8_bless_9 : decode cX8_bless 9 = .ok (.ireturn, 1) := by decide +kernel
theorem dX8_bless_10 : decode cX8_bless 10 = .ok (.aload_n 0, 1) := by decide +kernel
theorem dX8_bless_11 : decode cX8_bless 11 = .ok (.getfield 21, 3) := by decide +kernel
theorem dX8_bless_14 : decode cX8_bless 14 = .ok (.getfield 148, 3) := by decide +kernel
theorem dX8_bless_17 : decode cX8_bless 17 = .ok (.iload_n 1, 1) := by decide +kernel
theorem dX8_bless_18 : decode cX8_bless 18 = .ok (.iaload, 1) := by decide +kernel
theorem dX8_bless_19 : decode cX8_bless 19 = .ok (.iconst 2, 1) := by decide +kernel
theorem dX8_bless_20 : decode cX8_bless 20 = .ok (.if_icmp .ne 10, 3) := by decide +kernel
theorem dX8_bless_23 : decode cX8_bless 23 = .ok (.aload_n 0, 1) := by decide +kernel
theorem dX8_bless_24 : decode cX8_bless 24 = .ok (.invokevirtual 291, 3) := by decide +kernel
theorem dX8_bless_27 : decode cX8_bless 27 = .ok (.goto 8, 3) := by decide +kernel
theorem dX8_bless_30 : decode cX8_bless 30 = .ok (.aload_n 0, 1) := by decide +kernel
theorem dX8_bless_31 : decode cX8_bless 31 = .ok (.iload_n 1, 1) := by decide +kernel
theorem dX8_bless_32 : decode cX8_bless 32 = .ok (.invokevirtual 294, 3) := by decide +kernel
theorem dX8_bless_35 : decode cX8_bless 35 = .ok (.ireturn, 1) := by decide +kernel
theorem dX8_as_0 : decode cX8_as 0 = .ok (.aload_n 0, 1) := by decide +kernel
theorem dX8_as_1 : decode cX8_as 1 = .ok (.iconst 0, 1) := by decide +kernel
theorem dX8_as_2 : decode cX8_as 2 = .ok (.putfield 73, 3) := by decide +kernel
theorem dX8_as_5 : decode cX8_as 5 = .ok (.aload_n 0, 1) := by decide +kernel
theorem dX8_as_6 : decode cX8_as 6 = .ok (.iload_n 1, 1) := by decide +kernel
theorem dX8_as_7 : decode cX8_as 7 = .ok (.invokevirtual 145, 3) := by decide +kernel
theorem dX8_as_10 : decode cX8_as 10 = .ok (.ifCond .ne 5, 3) := by decide +kernel
theorem dX8_as_13 : decode cX8_as 13 = .ok (.iconst (-1), 1) := by decide +kernel
theorem dX8_as_14 : decode cX8_as 14 = .ok (.ireturn, 1) := by decide +kernel
theorem dX8_as_15 : decode cX8_as 15 = .ok (.iload_n 2, 1) := by decide +kernel
theorem dX8_as_16 : decode cX8_as 16 = .ok (.invokestatic 132, 3) := by decide +kernel
theorem dX8_as_19 : decode cX8_as 19 = .ok (.ifCond .ne 6, 3) := by decide +kernel
theorem dX8_as_22 : decode cX8_as 22 = .ok (.bipush (-2), 2) := by decide +kernel
theorem dX8_as_24 : decode cX8_as 24 = .ok (.ireturn, 1) := by decide +kernel
theorem dX8_as_25 : decode cX8_as 25 = .ok (.aload_n 0, 1) := by decide +kernel
theorem dX8_as_26 : decode cX8_as 26 = .ok (.getfield 21, 3) := by decide +kernel
theorem dX8_as_29 : decode cX8_as 29 = .ok (.getfield 148, 3) := by decide +kernel
theorem dX8_as_32 : decode cX8_as 32 = .ok (.iload_n 1, 1) := by decide +kernel
theorem dX8_as_33 : decode cX8_as 33 = .ok (.iaload, 1) := by decide +kernel
theorem dX8_as_34 : decode cX8_as 34 = .ok (.iload_n 2, 1) := by decide +kernel
theorem dX8_as_35 : decode cX8_as 35 = .ok (.if_icmp .ge 11, 3) := by decide +kernel
theorem dX8_as_38 : decode cX8_as 38 = .ok (.aload_n 0, 1) := by decide +kernel
theorem dX8_as_39 : decode cX8_as 39 = .ok (.iconst 2, 1) := by decide +kernel
theorem dX8_as_40 : decode cX8_as 40 = .ok (.invokevirtual 250, 3) := by decide +kernel
theorem dX8_as_43 : decode cX8_as 43 = .ok (.goto 4, 3) := by decide +kernel
theorem dX8_as_46 : decode cX8_as 46 = .ok (.iconst 1, 1) := by decide +kernel
theorem dX8_as_47 : decode cX8_as 47 = .ok (.ireturn, 1) := by decide +kernel
theorem dX8_trace_0 : decode cX8_trace 0 = .ok (.aload_n 0, 1) := by decide +kernel
theorem dX8_trace_1 : decode cX8_trace 1 = .ok (.getfield 297, 3) := by decide +kernel
theorem dX8_trace_4 : decode cX8_trace 4 = .ok (.ireturn, 1) := by decide +kernel
theorem dX8_fault_0 : decode cX8_fault 0 = .ok (.aload_n 0, 1) := by decide +kernel
theorem dX8_fault_1 : decode cX8_fault 1 = .ok (.getfield 73, 3) := by decide +kernel
theorem dX8_fault_4 : decode cX8_fault 4 = .ok (.ireturn, 1) := by decide +kernel
theorem dX8_many_0 : decode cX8_many 0 = .ok (.iload_n 1, 1) := by decide +kernel
theorem dX8_many_1 : decode cX8_many 1 = .ok (.tableswitch 102 0 6 #[43, 51, 59, 67, 75, 86, 94], 43) := by decide +kernel
theorem dX8_many_44 : decode cX8_many 44 = .ok (.aload_n 0, 1) := by decide +kernel
theorem dX8_many_45 : decode cX8_many 45 = .ok (.getfield 14, 3) := by decide +kernel
theorem dX8_many_48 : decode cX8_many 48 = .ok (.getfield 107, 3) := by decide +kernel
theorem dX8_many_51 : decode cX8_many 51 = .ok (.ireturn, 1) := by decide +kernel
theorem dX8_many_52 : decode cX8_many 52 = .ok (.aload_n 0, 1) := by decide +kernel
theorem dX8_many_53 : decode cX8_many 53 = .ok (.getfield 14, 3) := by decide +kernel
theorem dX8_many_56 : decode cX8_many 56 = .ok (.getfield 300, 3) := by decide +kernel
theorem dX8_many_59 : decode cX8_many 59 = .ok (.ireturn, 1) := by decide +kernel
theorem dX8_many_60 : decode cX8_many 60 = .ok (.aload_n 0, 1) := by decide +kernel
theorem dX8_many_61 : decode cX8_many 61 = .ok (.getfield 14, 3) := by decide +kernel
theorem dX8_many_64 : decode cX8_many 64 = .ok (.getfield 303, 3) := by decide +kernel
theorem dX8_many_67 : decode cX8_many 67 = .ok (.ireturn, 1) := by decide +kernel
theorem dX8_many_68 : decode cX8_many 68 = .ok (.aload_n 0, 1) := by decide +kernel
theorem dX8_many_69 : decode cX8_many 69 = .ok (.getfield 21, 3) := by decide +kernel
theorem dX8_many_72 : decode cX8_many 72 = .ok (.getfield 100, 3) := by decide +kernel
theorem dX8_many_75 : decode cX8_many 75 = .ok (.ireturn, 1) := by decide +kernel
theorem dX8_many_76 : decode cX8_many 76 = .ok (.aload_n 0, 1) := by decide +kernel
theorem dX8_many_77 : decode cX8_many 77 = .ok (.getfield 14, 3) := by decide +kernel
theorem dX8_many_80 : decode cX8_many 80 = .ok (.getfield 126, 3) := by decide +kernel
theorem dX8_many_83 : decode cX8_many 83 = .ok (.invokestatic 222, 3) := by decide +kernel
theorem dX8_many_86 : decode cX8_many 86 = .ok (.ireturn, 1) := by decide +kernel
theorem dX8_many_87 : decode cX8_many 87 = .ok (.aload_n 0, 1) := by decide +kernel
theorem dX8_many_88 : decode cX8_many 88 = .ok (.getfield 39, 3) := by decide +kernel
theorem dX8_many_91 : decode cX8_many 91 = .ok (.getfield 103, 3) := by decide +kernel
theorem dX8_many_94 : decode cX8_many 94 = .ok (.ireturn, 1) := by decide +kernel
theorem dX8_many_95 : decode cX8_many 95 = .ok (.aload_n 0, 1) := by decide +kernel
theorem dX8_many_96 : decode cX8_many 96 = .ok (.getfield 30, 3) := by decide +kernel
theorem dX8_many_99 : decode cX8_many 99 = .ok (.getfield 104, 3) := by decide +kernel
theorem dX8_many_102 : decode cX8_many 102 = .ok (.ireturn, 1) := by decide +kernel
theorem dX8_many_103 : decode cX8_many 103 = .ok (.bipush (-2), 2) := by decide +kernel
theorem dX8_many_105 : decode cX8_many 105 = .ok (.ireturn, 1) := by decide +kernel
theorem dX8_isCell_0 : decode cX8_isCell 0 = .ok (.iload_n 1, 1) := by decide +kernel
theorem dX8_isCell_1 : decode cX8_isCell 1 = .ok (.ifCond .lt 18, 3) := by decide +kernel
theorem dX8_isCell_4 : decode cX8_isCell 4 = .ok (.iload_n 1, 1) := by decide +kernel
theorem dX8_isCell_5 : decode cX8_isCell 5 = .ok (.aload_n 0, 1) := by decide +kernel
theorem dX8_isCell_6 : decode cX8_isCell 6 = .ok (.getfield 14, 3) := by decide +kernel
theorem dX8_isCell_9 : decode cX8_isCell 9 = .ok (.getfield 107, 3) := by decide +kernel
theorem dX8_isCell_12 : decode cX8_isCell 12 = .ok (.if_icmp .ge 7, 3) := by decide +kernel
theorem dX8_isCell_15 : decode cX8_isCell 15 = .ok (.iconst 1, 1) := by decide +kernel
theorem dX8_isCell_16 : decode cX8_isCell 16 = .ok (.goto 4, 3) := by decide +kernel
theorem dX8_isCell_19 : decode cX8_isCell 19 = .ok (.iconst 0, 1) := by decide +kernel
theorem dX8_isCell_20 : decode cX8_isCell 20 = .ok (.ireturn, 1) := by decide +kernel
theorem dX8_isBell_0 : decode cX8_isBell 0 = .ok (.iload_n 1, 1) := by decide +kernel
theorem dX8_isBell_1 : decode cX8_isBell 1 = .ok (.ifCond .lt 18, 3) := by decide +kernel
theorem dX8_isBell_4 : decode cX8_isBell 4 = .ok (.iload_n 1, 1) := by decide +kernel
theorem dX8_isBell_5 : decode cX8_isBell 5 = .ok (.aload_n 0, 1) := by decide +kernel
theorem dX8_isBell_6 : decode cX8_isBell 6 = .ok (.getfield 21, 3) := by decide +kernel
theorem dX8_isBell_9 : decode cX8_isBell 9 = .ok (.getfield 100, 3) := by decide +kernel
theorem dX8_isBell_12 : decode cX8_isBell 12 = .ok (.if_icmp .ge 7, 3) := by decide +kernel
theorem dX8_isBell_15 : decode cX8_isBell 15 = .ok (.iconst 1, 1) := by decide +kernel
theorem dX8_isBell_16 : decode cX8_isBell 16 = .ok (.goto 4, 3) := by decide +kernel
theorem dX8_isBell_19 : decode cX8_isBell 19 = .ok (.iconst 0, 1) := by decide +kernel
theorem dX8_isBell_20 : decode cX8_isBell 20 = .ok (.ireturn, 1) := by decide +kernel
theorem dX8_isSheet_0 : decode cX8_isSheet 0 = .ok (.iload_n 0, 1) := by decide +kernel
theorem dX8_isSheet_1 : decode cX8_isSheet 1 = .ok (.ifCond .lt 12, 3) := by decide +kernel
theorem dX8_isSheet_4 : decode cX8_isSheet 4 = .ok (.iload_n 0, 1) := by decide +kernel
theorem dX8_isSheet_5 : decode cX8_isSheet 5 = .ok (.iconst 4, 1) := by decide +kernel
theorem dX8_isSheet_6 : decode cX8_isSheet 6 = .ok (.if_icmp .ge 7, 3) := by decide +kernel
theorem dX8_isSheet_9 : decode cX8_isSheet 9 = .ok (.iconst 1, 1) := by decide +kernel
theorem dX8_isSheet_10 : decode cX8_isSheet 10 = .ok (.goto 4, 3) := by decide +kernel
theorem dX8_isSheet_13 : decode cX8_isSheet 13 = .ok (.iconst 0, 1) := by decide +kernel
theorem dX8_isSheet_14 : decode cX8_isSheet 14 = .ok (.ireturn, 1) := by decide +kernel
theorem dX8_isSort_0 : decode cX8_isSort 0 = .ok (.iload_n 0, 1) := by decide +kernel
theorem dX8_isSort_1 : decode cX8_isSort 1 = .ok (.ifCond .lt 12, 3) := by decide +kernel
theorem dX8_isSort_4 : decode cX8_isSort 4 = .ok (.iload_n 0, 1) := by decide +kernel
theorem dX8_isSort_5 : decode cX8_isSort 5 = .ok (.iconst 2, 1) := by decide +kernel
theorem dX8_isSort_6 : decode cX8_isSort 6 = .ok (.if_icmp .gt 7, 3) := by decide +kernel
theorem dX8_isSort_9 : decode cX8_isSort 9 = .ok (.iconst 1, 1) := by decide +kernel
theorem dX8_isSort_10 : decode cX8_isSort 10 = .ok (.goto 4, 3) := by decide +kernel
theorem dX8_isSort_13 : decode cX8_isSort 13 = .ok (.iconst 0, 1) := by decide +kernel
theorem dX8_isSort_14 : decode cX8_isSort 14 = .ok (.ireturn, 1) := by decide +kernel
theorem dX8_isKind_0 : decode cX8_isKind 0 = .ok (.iload_n 0, 1) := by decide +kernel
theorem dX8_isKind_1 : decode cX8_isKind 1 = .ok (.ifCond .lt 12, 3) := by decide +kernel
theorem dX8_isKind_4 : decode cX8_isKind 4 = .ok (.iload_n 0, 1) := by decide +kernel
theorem dX8_isKind_5 : decode cX8_isKind 5 = .ok (.iconst 2, 1) := by decide +kernel
theorem dX8_isKind_6 : decode cX8_isKind 6 = .ok (.if_icmp .gt 7, 3) := by decide +kernel
theorem dX8_isKind_9 : decode cX8_isKind 9 = .ok (.iconst 1, 1) := by decide +kernel
theorem dX8_isKind_10 : decode cX8_isKind 10 = .ok (.goto 4, 3) := by decide +kernel
theorem dX8_isKind_13 : decode cX8_isKind 13 = .ok (.iconst 0, 1) := by decide +kernel
theorem dX8_isKind_14 : decode cX8_isKind 14 = .ok (.ireturn, 1) := by decide +kernel
theorem dX8_isWeight_0 : decode cX8_isWeight 0 = .ok (.iload_n 0, 1) := by decide +kernel
theorem dX8_isWeight_1 : decode cX8_isWeight 1 = .ok (.iconst 1, 1) := by decide +kernel
theorem dX8_isWeight_2 : decode cX8_isWeight 2 = .ok (.if_icmp .lt 13, 3) := by decide +kernel
theorem dX8_isWeight_5 : decode cX8_isWeight 5 = .ok (.iload_n 0, 1) := by decide +kernel
theorem dX8_isWeight_6 : decode cX8_isWeight 6 = .ok (.bipush 99, 2) := by decide +kernel
theorem dX8_isWeight_8 : decode cX8_isWeight 8 = .ok (.if_icmp .gt 7, 3) := by decide +kernel
theorem dX8_isWeight_11 : decode cX8_isWeight 11 = .ok (.iconst 1, 1) := by decide +kernel
theorem dX8_isWeight_12 : decode cX8_isWeight 12 = .ok (.goto 4, 3) := by decide +kernel
theorem dX8_isWeight_15 : decode cX8_isWeight 15 = .ok (.iconst 0, 1) := by decide +kernel
theorem dX8_isWeight_16 : decode cX8_isWeight 16 = .ok (.ireturn, 1) := by decide +kernel
theorem dX8_isWind_0 : decode cX8_isWind 0 = .ok (.iload_n 0, 1) := by decide +kernel
theorem dX8_isWind_1 : decode cX8_isWind 1 = .ok (.ifCond .lt 13, 3) := by decide +kernel
theorem dX8_isWind_4 : decode cX8_isWind 4 = .ok (.iload_n 0, 1) := by decide +kernel
theorem dX8_isWind_5 : decode cX8_isWind 5 = .ok (.bipush 39, 2) := by decide +kernel
theorem dX8_isWind_7 : decode cX8_isWind 7 = .ok (.if_icmp .gt 7, 3) := by decide +kernel
theorem dX8_isWind_10 : decode cX8_isWind 10 = .ok (.iconst 1, 1) := by decide +kernel
theorem dX8_isWind_11 : decode cX8_isWind 11 = .ok (.goto 4, 3) := by decide +kernel
theorem dX8_isWind_14 : decode cX8_isWind 14 = .ok (.iconst 0, 1) := by decide +kernel
theorem dX8_isWind_15 : decode cX8_isWind 15 = .ok (.ireturn, 1) := by decide +kernel
theorem dX8_isOneOfTwo_0 : decode cX8_isOneOfTwo 0 = .ok (.iload_n 0, 1) := by decide +kernel
theorem dX8_isOneOfTwo_1 : decode cX8_isOneOfTwo 1 = .ok (.ifCond .eq 8, 3) := by decide +kernel
theorem dX8_isOneOfTwo_4 : decode cX8_isOneOfTwo 4 = .ok (.iload_n 0, 1) := by decide +kernel
theorem dX8_isOneOfTwo_5 : decode cX8_isOneOfTwo 5 = .ok (.iconst 1, 1) := by decide +kernel
theorem dX8_isOneOfTwo_6 : decode cX8_isOneOfTwo 6 = .ok (.if_icmp .ne 7, 3) := by decide +kernel
theorem dX8_isOneOfTwo_9 : decode cX8_isOneOfTwo 9 = .ok (.iconst 1, 1) := by decide +kernel
theorem dX8_isOneOfTwo_10 : decode cX8_isOneOfTwo 10 = .ok (.goto 4, 3) := by decide +kernel
theorem dX8_isOneOfTwo_13 : decode cX8_isOneOfTwo 13 = .ok (.iconst 0, 1) := by decide +kernel
theorem dX8_isOneOfTwo_14 : decode cX8_isOneOfTwo 14 = .ok (.ireturn, 1) := by decide +kernel
theorem dX8_faulty_0 : decode cX8_faulty 0 = .ok (.aload_n 0, 1) := by decide +kernel
theorem dX8_faulty_1 : decode cX8_faulty 1 = .ok (.iload_n 1, 1) := by decide +kernel
theorem dX8_faulty_2 : decode cX8_faulty 2 = .ok (.putfield 73, 3) := by decide +kernel
theorem dX8_faulty_5 : decode cX8_faulty 5 = .ok (.bipush (-10), 2) := by decide +kernel
theorem dX8_faulty_7 : decode cX8_faulty 7 = .ok (.iload_n 1, 1) := by decide +kernel
theorem dX8_faulty_8 : decode cX8_faulty 8 = .ok (.isub, 1) := by decide +kernel
theorem dX8_faulty_9 : decode cX8_faulty 9 = .ok (.ireturn, 1) := by decide +kernel
theorem dX8_share_0 : decode cX8_share 0 = .ok (.lload_n 0, 1) := by decide +kernel
theorem dX8_share_1 : decode cX8_share 1 = .ok (.lload_n 2, 1) := by decide +kernel
theorem dX8_share_2 : decode cX8_share 2 = .ok (.invokestatic 306, 3) := by decide +kernel
theorem dX8_share_5 : decode cX8_share 5 = .ok (.lstore 5, 2) := by decide +kernel
theorem dX8_share_7 : decode cX8_share 7 = .ok (.iload 4, 2) := by decide +kernel
theorem dX8_share_9 : decode cX8_share 9 = .ok (.ifCond .ne 7, 3) := by decide +kernel
theorem dX8_share_12 : decode cX8_share 12 = .ok (.lload_n 0, 1) := by decide +kernel
theorem dX8_share_13 : decode cX8_share 13 = .ok (.goto 4, 3) := by decide +kernel
theorem dX8_share_16 : decode cX8_share 16 = .ok (.lload_n 2, 1) := by decide +kernel
theorem dX8_share_17 : decode cX8_share 17 = .ok (.lload 5, 2) := by decide +kernel
theorem dX8_share_19 : decode cX8_share 19 = .ok (.ldiv, 1) := by decide +kernel
theorem dX8_share_20 : decode cX8_share 20 = .ok (.lreturn, 1) := by decide +kernel
theorem dX8_greatestCommon_0 : decode cX8_greatestCommon 0 = .ok (.lload_n 0, 1) := by decide +kernel
theorem dX8_greatestCommon_1 : decode cX8_greatestCommon 1 = .ok (.lstore 4, 2) := by decide +kernel
theorem dX8_greatestCommon_3 : decode cX8_greatestCommon 3 = .ok (.lload_n 2, 1) := by decide +kernel
theorem dX8_greatestCommon_4 : decode cX8_greatestCommon 4 = .ok (.lstore 6, 2) := by decide +kernel
theorem dX8_greatestCommon_6 : decode cX8_greatestCommon 6 = .ok (.iconst 0, 1) := by decide +kernel
theorem dX8_greatestCommon_7 : decode cX8_greatestCommon 7 = .ok (.istore 8, 2) := by decide +kernel
theorem dX8_greatestCommon_9 : decode cX8_greatestCommon 9 = .ok (.iload 8, 2) := by decide +kernel
theorem dX8_greatestCommon_11 : decode cX8_greatestCommon 11 = .ok (.bipush 100, 2) := by decide +kernel
theorem dX8_greatestCommon_13 : decode cX8_greatestCommon 13 = .ok (.if_icmp .ge 31, 3) := by decide +kernel
theorem dX8_greatestCommon_16 : decode cX8_greatestCommon 16 = .ok (.lload 6, 2) := by decide +kernel
theorem dX8_greatestCommon_18 : decode cX8_greatestCommon 18 = .ok (.lconst 0, 1) := by decide +kernel
theorem dX8_greatestCommon_19 : decode cX8_greatestCommon 19 = .ok (.lcmp, 1) := by decide +kernel
theorem dX8_greatestCommon_20 : decode cX8_greatestCommon 20 = .ok (.ifCond .eq 24, 3) := by decide +kernel
theorem dX8_greatestCommon_23 : decode cX8_greatestCommon 23 = .ok (.lload 4, 2) := by decide +kernel
theorem dX8_greatestCommon_25 : decode cX8_greatestCommon 25 = .ok (.lload 6, 2) := by decide +kernel
theorem dX8_greatestCommon_27 : decode cX8_greatestCommon 27 = .ok (.lrem, 1) := by decide +kernel
theorem dX8_greatestCommon_28 : decode cX8_greatestCommon 28 = .ok (.lstore 9, 2) := by decide +kernel
theorem dX8_greatestCommon_30 : decode cX8_greatestCommon 30 = .ok (.lload 6, 2) := by decide +kernel
theorem dX8_greatestCommon_32 : decode cX8_greatestCommon 32 = .ok (.lstore 4, 2) := by decide +kernel
theorem dX8_greatestCommon_34 : decode cX8_greatestCommon 34 = .ok (.lload 9, 2) := by decide +kernel
theorem dX8_greatestCommon_36 : decode cX8_greatestCommon 36 = .ok (.lstore 6, 2) := by decide +kernel
theorem dX8_greatestCommon_38 : decode cX8_greatestCommon 38 = .ok (.iinc 8 1, 3) := by decide +kernel
theorem dX8_greatestCommon_41 : decode cX8_greatestCommon 41 = .ok (.goto (-32), 3) := by decide +kernel
theorem dX8_greatestCommon_44 : decode cX8_greatestCommon 44 = .ok (.lconst 1, 1) := by decide +kernel
theorem dX8_greatestCommon_45 : decode cX8_greatestCommon 45 = .ok (.lload 4, 2) := by decide +kernel
theorem dX8_greatestCommon_47 : decode cX8_greatestCommon 47 = .ok (.invokestatic 310, 3) := by decide +kernel
theorem dX8_greatestCommon_50 : decode cX8_greatestCommon 50 = .ok (.lreturn, 1) := by decide +kernel
theorem dX8_memberOf_0 : decode cX8_memberOf 0 = .ok (.iconst 0, 1) := by decide +kernel
theorem dX8_memberOf_1 : decode cX8_memberOf 1 = .ok (.istore_n 2, 1) := by decide +kernel
theorem dX8_memberOf_2 : decode cX8_memberOf 2 = .ok (.iconst 0, 1) := by decide +kernel
theorem dX8_memberOf_3 : decode cX8_memberOf 3 = .ok (.istore_n 3, 1) := by decide +kernel
theorem dX8_memberOf_4 : decode cX8_memberOf 4 = .ok (.iload_n 3, 1) := by decide +kernel
theorem dX8_memberOf_5 : decode cX8_memberOf 5 = .ok (.bipush 30, 2) := by decide +kernel
theorem dX8_memberOf_7 : decode cX8_memberOf 7 = .ok (.if_icmp .ge 30, 3) := by decide +kernel
theorem dX8_memberOf_10 : decode cX8_memberOf 10 = .ok (.iload_n 0, 1) := by decide +kernel
theorem dX8_memberOf_11 : decode cX8_memberOf 11 = .ok (.iload_n 3, 1) := by decide +kernel
theorem dX8_memberOf_12 : decode cX8_memberOf 12 = .ok (.ishr, 1) := by decide +kernel
theorem dX8_memberOf_13 : decode cX8_memberOf 13 = .ok (.iconst 1, 1) := by decide +kernel
theorem dX8_memberOf_14 : decode cX8_memberOf 14 = .ok (.iand, 1) := by decide +kernel
theorem dX8_memberOf_15 : decode cX8_memberOf 15 = .ok (.ifCond .ne 6, 3) := by decide +kernel
theorem dX8_memberOf_18 : decode cX8_memberOf 18 = .ok (.goto 13, 3) := by decide +kernel
theorem dX8_memberOf_21 : decode cX8_memberOf 21 = .ok (.iload_n 2, 1) := by decide +kernel
theorem dX8_memberOf_22 : decode cX8_memberOf 22 = .ok (.iload_n 1, 1) := by decide +kernel
theorem dX8_memberOf_23 : decode cX8_memberOf 23 = .ok (.if_icmp .ne 5, 3) := by decide +kernel
theorem dX8_memberOf_26 : decode cX8_memberOf 26 = .ok (.iload_n 3, 1) := by decide +kernel
theorem dX8_memberOf_27 : decode cX8_memberOf 27 = .ok (.ireturn, 1) := by decide +kernel
theorem dX8_memberOf_28 : decode cX8_memberOf 28 = .ok (.iinc 2 1, 3) := by decide +kernel
theorem dX8_memberOf_31 : decode cX8_memberOf 31 = .ok (.iinc 3 1, 3) := by decide +kernel
theorem dX8_memberOf_34 : decode cX8_memberOf 34 = .ok (.goto (-30), 3) := by decide +kernel
theorem dX8_memberOf_37 : decode cX8_memberOf 37 = .ok (.bipush (-9), 2) := by decide +kernel
theorem dX8_memberOf_39 : decode cX8_memberOf 39 = .ok (.ireturn, 1) := by decide +kernel
theorem dX8_partsOfTithe_0 : decode cX8_partsOfTithe 0 = .ok (.iconst 0, 1) := by decide +kernel
theorem dX8_partsOfTithe_1 : decode cX8_partsOfTithe 1 = .ok (.istore_n 2, 1) := by decide +kernel
theorem dX8_partsOfTithe_2 : decode cX8_partsOfTithe 2 = .ok (.iconst 0, 1) := by decide +kernel
theorem dX8_partsOfTithe_3 : decode cX8_partsOfTithe 3 = .ok (.istore_n 3, 1) := by decide +kernel
theorem dX8_partsOfTithe_4 : decode cX8_partsOfTithe 4 = .ok (.iload_n 3, 1) := by decide +kernel
theorem dX8_partsOfTithe_5 : decode cX8_partsOfTithe 5 = .ok (.aload_n 0, 1) := by decide +kernel
theorem dX8_partsOfTithe_6 : decode cX8_partsOfTithe 6 = .ok (.getfield 14, 3) := by decide +kernel
theorem dX8_partsOfTithe_9 : decode cX8_partsOfTithe 9 = .ok (.getfield 107, 3) := by decide +kernel
theorem dX8_partsOfTithe_12 : decode cX8_partsOfTithe 12 = .ok (.if_icmp .ge 49, 3) := by decide +kernel
theorem dX8_partsOfTithe_15 : decode cX8_partsOfTithe 15 = .ok (.aload_n 0, 1) := by decide +kernel
theorem dX8_partsOfTithe_16 : decode cX8_partsOfTithe 16 = .ok (.getfield 30, 3) := by decide +kernel
theorem dX8_partsOfTithe_19 : decode cX8_partsOfTithe 19 = .ok (.iload_n 3, 1) := by decide +kernel
theorem dX8_partsOfTithe_20 : decode cX8_partsOfTithe 20 = .ok (.invokevirtual 180, 3) := by decide +kernel
theorem dX8_partsOfTithe_23 : decode cX8_partsOfTithe 23 = .ok (.istore 4, 2) := by decide +kernel
theorem dX8_partsOfTithe_25 : decode cX8_partsOfTithe 25 = .ok (.iload 4, 2) := by decide +kernel
theorem dX8_partsOfTithe_27 : decode cX8_partsOfTithe 27 = .ok (.iload_n 1, 1) := by decide +kernel
theorem dX8_partsOfTithe_28 : decode cX8_partsOfTithe 28 = .ok (.ishr, 1) := by decide +kernel
theorem dX8_partsOfTithe_29 : decode cX8_partsOfTithe 29 = .ok (.iconst 1, 1) := by decide +kernel
theorem dX8_partsOfTithe_30 : decode cX8_partsOfTithe 30 = .ok (.iand, 1) := by decide +kernel
theorem dX8_partsOfTithe_31 : decode cX8_partsOfTithe 31 = .ok (.iconst 1, 1) := by decide +kernel
theorem dX8_partsOfTithe_32 : decode cX8_partsOfTithe 32 = .ok (.if_icmp .ne 23, 3) := by decide +kernel
theorem dX8_partsOfTithe_35 : decode cX8_partsOfTithe 35 = .ok (.iload_n 2, 1) := by decide +kernel
theorem dX8_partsOfTithe_36 : decode cX8_partsOfTithe 36 = .ok (.aload_n 0, 1) := by decide +kernel
theorem dX8_partsOfTithe_37 : decode cX8_partsOfTithe 37 = .ok (.getfield 14, 3) := by decide +kernel
theorem dX8_partsOfTithe_40 : decode cX8_partsOfTithe 40 = .ok (.iload_n 3, 1) := by decide +kernel
theorem dX8_partsOfTithe_41 : decode cX8_partsOfTithe 41 = .ok (.invokevirtual 116, 3) := by decide +kernel
theorem dX8_partsOfTithe_44 : decode cX8_partsOfTithe 44 = .ok (.bipush 60, 2) := by decide +kernel
theorem dX8_partsOfTithe_46 : decode cX8_partsOfTithe 46 = .ok (.imul, 1) := by decide +kernel
theorem dX8_partsOfTithe_47 : decode cX8_partsOfTithe 47 = .ok (.iload 4, 2) := by decide +kernel
theorem dX8_partsOfTithe_49 : decode cX8_partsOfTithe 49 = .ok (.invokestatic 222, 3) := by decide +kernel
theorem dX8_partsOfTithe_52 : decode cX8_partsOfTithe 52 = .ok (.idiv, 1) := by decide +kernel
theorem dX8_partsOfTithe_53 : decode cX8_partsOfTithe 53 = .ok (.iadd, 1) := by decide +kernel
theorem dX8_partsOfTithe_54 : decode cX8_partsOfTithe 54 = .ok (.istore_n 2, 1) := by decide +kernel
theorem dX8_partsOfTithe_55 : decode cX8_partsOfTithe 55 = .ok (.iinc 3 1, 3) := by decide +kernel
theorem dX8_partsOfTithe_58 : decode cX8_partsOfTithe 58 = .ok (.goto (-54), 3) := by decide +kernel
theorem dX8_partsOfTithe_61 : decode cX8_partsOfTithe 61 = .ok (.iload_n 2, 1) := by decide +kernel
theorem dX8_partsOfTithe_62 : decode cX8_partsOfTithe 62 = .ok (.ireturn, 1) := by decide +kernel
theorem dX8_isPact_0 : decode cX8_isPact 0 = .ok (.aload_n 0, 1) := by decide +kernel
theorem dX8_isPact_1 : decode cX8_isPact 1 = .ok (.getfield 14, 3) := by decide +kernel
theorem dX8_isPact_4 : decode cX8_isPact 4 = .ok (.aload_n 0, 1) := by decide +kernel
theorem dX8_isPact_5 : decode cX8_isPact 5 = .ok (.getfield 30, 3) := by decide +kernel
theorem dX8_isPact_8 : decode cX8_isPact 8 = .ok (.iload_n 1, 1) := by decide +kernel
theorem dX8_isPact_9 : decode cX8_isPact 9 = .ok (.iload_n 2, 1) := by decide +kernel
theorem dX8_isPact_10 : decode cX8_isPact 10 = .ok (.invokevirtual 204, 3) := by decide +kernel
theorem dX8_isPact_13 : decode cX8_isPact 13 = .ok (.invokevirtual 312, 3) := by decide +kernel
theorem dX8_isPact_16 : decode cX8_isPact 16 = .ok (.istore_n 3, 1) := by decide +kernel
theorem dX8_isPact_17 : decode cX8_isPact 17 = .ok (.iload_n 3, 1) := by decide +kernel
theorem dX8_isPact_18 : decode cX8_isPact 18 = .ok (.iconst 2, 1) := by decide +kernel
theorem dX8_isPact_19 : decode cX8_isPact 19 = .ok (.aload_n 0, 1) := by decide +kernel
theorem dX8_isPact_20 : decode cX8_isPact 20 = .ok (.getfield 14, 3) := by decide +kernel
theorem dX8_isPact_23 : decode cX8_isPact 23 = .ok (.aload_n 0, 1) := by decide +kernel
theorem dX8_isPact_24 : decode cX8_isPact 24 = .ok (.getfield 30, 3) := by decide +kernel
theorem dX8_isPact_27 : decode cX8_isPact 27 = .ok (.iload_n 1, 1) := by decide +kernel
theorem dX8_isPact_28 : decode cX8_isPact 28 = .ok (.invokevirtual 315, 3) := by decide +kernel
theorem dX8_isPact_31 : decode cX8_isPact 31 = .ok (.invokevirtual 312, 3) := by decide +kernel
theorem dX8_isPact_34 : decode cX8_isPact 34 = .ok (.imul, 1) := by decide +kernel
theorem dX8_isPact_35 : decode cX8_isPact 35 = .ok (.if_icmp .le 28, 3) := by decide +kernel
theorem dX8_isPact_38 : decode cX8_isPact 38 = .ok (.iload_n 3, 1) := by decide +kernel
theorem dX8_isPact_39 : decode cX8_isPact 39 = .ok (.iconst 2, 1) := by decide +kernel
theorem dX8_isPact_40 : decode cX8_isPact 40 = .ok (.aload_n 0, 1) := by decide +kernel
theorem dX8_isPact_41 : decode cX8_isPact 41 = .ok (.getfield 14, 3) := by decide +kernel
theorem dX8_isPact_44 : decode cX8_isPact 44 = .ok (.aload_n 0, 1) := by decide +kernel
theorem dX8_isPact_45 : decode cX8_isPact 45 = .ok (.getfield 30, 3) := by decide +kernel
theorem dX8_isPact_48 : decode cX8_isPact 48 = .ok (.iload_n 2, 1) := by decide +kernel
theorem dX8_isPact_49 : decode cX8_isPact 49 = .ok (.invokevirtual 315, 3) := by decide +kernel
theorem dX8_isPact_52 : decode cX8_isPact 52 = .ok (.invokevirtual 312, 3) := by decide +kernel
theorem dX8_isPact_55 : decode cX8_isPact 55 = .ok (.imul, 1) := by decide +kernel
theorem dX8_isPact_56 : decode cX8_isPact 56 = .ok (.if_icmp .le 7, 3) := by decide +kernel
theorem dX8_isPact_59 : decode cX8_isPact 59 = .ok (.iconst 1, 1) := by decide +kernel
theorem dX8_isPact_60 : decode cX8_isPact 60 = .ok (.goto 4, 3) := by decide +kernel
theorem dX8_isPact_63 : decode cX8_isPact 63 = .ok (.iconst 0, 1) := by decide +kernel
theorem dX8_isPact_64 : decode cX8_isPact 64 = .ok (.ireturn, 1) := by decide +kernel
theorem dX8_mark_0 : decode cX8_mark 0 = .ok (.aload_n 0, 1) := by decide +kernel
theorem dX8_mark_1 : decode cX8_mark 1 = .ok (.bipush 31, 2) := by decide +kernel
theorem dX8_mark_3 : decode cX8_mark 3 = .ok (.aload_n 0, 1) := by decide +kernel
theorem dX8_mark_4 : decode cX8_mark 4 = .ok (.getfield 297, 3) := by decide +kernel
theorem dX8_mark_7 : decode cX8_mark 7 = .ok (.imul, 1) := by decide +kernel
theorem dX8_mark_8 : decode cX8_mark 8 = .ok (.iload_n 1, 1) := by decide +kernel
theorem dX8_mark_9 : decode cX8_mark 9 = .ok (.iadd, 1) := by decide +kernel
theorem dX8_mark_10 : decode cX8_mark 10 = .ok (.putfield 297, 3) := by decide +kernel
theorem dX8_mark_13 : decode cX8_mark 13 = .ok (.return_, 1) := by decide +kernel
theorem dX8_bellBody_0 : decode cX8_bellBody 0 = .ok (.aload_n 0, 1) := by decide +kernel
theorem dX8_bellBody_1 : decode cX8_bellBody 1 = .ok (.iconst 1, 1) := by decide +kernel
theorem dX8_bellBody_2 : decode cX8_bellBody 2 = .ok (.invokevirtual 318, 3) := by decide +kernel
theorem dX8_bellBody_5 : decode cX8_bellBody 5 = .ok (.aload_n 0, 1) := by decide +kernel
theorem dX8_bellBody_6 : decode cX8_bellBody 6 = .ok (.getfield 21, 3) := by decide +kernel
theorem dX8_bellBody_9 : decode cX8_bellBody 9 = .ok (.getfield 154, 3) := by decide +kernel
theorem dX8_bellBody_12 : decode cX8_bellBody 12 = .ok (.iload_n 1, 1) := by decide +kernel
theorem dX8_bellBody_13 : decode cX8_bellBody 13 = .ok (.iaload, 1) := by decide +kernel
theorem dX8_bellBody_14 : decode cX8_bellBody 14 = .ok (.ireturn, 1) := by decide +kernel
theorem dX8_tenorBody_0 : decode cX8_tenorBody 0 = .ok (.aload_n 0, 1) := by decide +kernel
theorem dX8_tenorBody_1 : decode cX8_tenorBody 1 = .ok (.iconst 2, 1) := by decide +kernel
theorem dX8_tenorBody_2 : decode cX8_tenorBody 2 = .ok (.invokevirtual 318, 3) := by decide +kernel
theorem dX8_tenorBody_5 : decode cX8_tenorBody 5 = .ok (.aload_n 0, 1) := by decide +kernel
theorem dX8_tenorBody_6 : decode cX8_tenorBody 6 = .ok (.iload_n 1, 1) := by decide +kernel
theorem dX8_tenorBody_7 : decode cX8_tenorBody 7 = .ok (.invokevirtual 288, 3) := by decide +kernel
theorem dX8_tenorBody_10 : decode cX8_tenorBody 10 = .ok (.bipush 100, 2) := by decide +kernel
theorem dX8_tenorBody_12 : decode cX8_tenorBody 12 = .ok (.iadd, 1) := by decide +kernel
theorem dX8_tenorBody_13 : decode cX8_tenorBody 13 = .ok (.ireturn, 1) := by decide +kernel
theorem dX8_greatBody_0 : decode cX8_greatBody 0 = .ok (.aload_n 0, 1) := by decide +kernel
theorem dX8_greatBody_1 : decode cX8_greatBody 1 = .ok (.iconst 3, 1) := by decide +kernel
theorem dX8_greatBody_2 : decode cX8_greatBody 2 = .ok (.invokevirtual 318, 3) := by decide +kernel
theorem dX8_greatBody_5 : decode cX8_greatBody 5 = .ok (.aload_n 0, 1) := by decide +kernel
theorem dX8_greatBody_6 : decode cX8_greatBody 6 = .ok (.iload_n 1, 1) := by decide +kernel
theorem dX8_greatBody_7 : decode cX8_greatBody 7 = .ok (.invokevirtual 285, 3) := by decide +kernel
theorem dX8_greatBody_10 : decode cX8_greatBody 10 = .ok (.aload_n 0, 1) := by decide +kernel
theorem dX8_greatBody_11 : decode cX8_greatBody 11 = .ok (.iload_n 1, 1) := by decide +kernel
theorem dX8_greatBody_12 : decode cX8_greatBody 12 = .ok (.invokevirtual 288, 3) := by decide +kernel
theorem dX8_greatBody_15 : decode cX8_greatBody 15 = .ok (.iadd, 1) := by decide +kernel
theorem dX8_greatBody_16 : decode cX8_greatBody 16 = .ok (.ireturn, 1) := by decide +kernel
theorem dX8_lentBody_0 : decode cX8_lentBody 0 = .ok (.aload_n 0, 1) := by decide +kernel
theorem dX8_lentBody_1 : decode cX8_lentBody 1 = .ok (.iconst 4, 1) := by decide +kernel
theorem dX8_lentBody_2 : decode cX8_lentBody 2 = .ok (.invokevirtual 318, 3) := by decide +kernel
theorem dX8_lentBody_5 : decode cX8_lentBody 5 = .ok (.iload_n 1, 1) := by decide +kernel
theorem dX8_lentBody_6 : decode cX8_lentBody 6 = .ok (.ireturn, 1) := by decide +kernel
theorem dX8_greatBlessing_0 : decode cX8_greatBlessing 0 = .ok (.aload_n 0, 1) := by decide +kernel
theorem dX8_greatBlessing_1 : decode cX8_greatBlessing 1 = .ok (.iconst 5, 1) := by decide +kernel
theorem dX8_greatBlessing_2 : decode cX8_greatBlessing 2 = .ok (.invokevirtual 318, 3) := by decide +kernel
theorem dX8_greatBlessing_5 : decode cX8_greatBlessing 5 = .ok (.bipush 60, 2) := by decide +kernel
theorem dX8_greatBlessing_7 : decode cX8_greatBlessing 7 = .ok (.ireturn, 1) := by decide +kernel
theorem dX9_init_0 : decode cX9_init 0 = .ok (.aload_n 0, 1) := by decide +kernel
theorem dX9_init_1 : decode cX9_init 1 = .ok (.invokespecial 1, 3) := by decide +kernel
theorem dX9_init_4 : decode cX9_init 4 = .ok (.aload_n 0, 1) := by decide +kernel
theorem dX9_init_5 : decode cX9_init 5 = .ok (.iconst 4, 1) := by decide +kernel
theorem dX9_init_6 : decode cX9_init 6 = .ok (.newarray .int, 2) := by decide +kernel
theorem dX9_init_8 : decode cX9_init 8 = .ok (.dup, 1) := by decide +kernel
theorem dX9_init_9 : decode cX9_init 9 = .ok (.iconst 0, 1) := by decide +kernel
theorem dX9_init_10 : decode cX9_init 10 = .ok (.bipush (-9), 2) := by decide +kernel
theorem dX9_init_12 : decode cX9_init 12 = .ok (.iastore, 1) := by decide +kernel
theorem dX9_init_13 : decode cX9_init 13 = .ok (.dup, 1) := by decide +kernel
theorem dX9_init_14 : decode cX9_init 14 = .ok (.iconst 1, 1) := by decide +kernel
theorem dX9_init_15 : decode cX9_init 15 = .ok (.bipush (-9), 2) := by decide +kernel
theorem dX9_init_17 : decode cX9_init 17 = .ok (.iastore, 1) := by decide +kernel
theorem dX9_init_18 : decode cX9_init 18 = .ok (.dup, 1) := by decide +kernel
theorem dX9_init_19 : decode cX9_init 19 = .ok (.iconst 2, 1) := by decide +kernel
theorem dX9_init_20 : decode cX9_init 20 = .ok (.bipush (-9), 2) := by decide +kernel
theorem dX9_init_22 : decode cX9_init 22 = .ok (.iastore, 1) := by decide +kernel
theorem dX9_init_23 : decode cX9_init 23 = .ok (.dup, 1) := by decide +kernel
theorem dX9_init_24 : decode cX9_init 24 = .ok (.iconst 3, 1) := by decide +kernel
theorem dX9_init_25 : decode cX9_init 25 = .ok (.bipush (-9), 2) := by decide +kernel
theorem dX9_init_27 : decode cX9_init 27 = .ok (.iastore, 1) := by decide +kernel
theorem dX9_init_28 : decode cX9_init 28 = .ok (.putfield 9, 3) := by decide +kernel
theorem dX9_init_31 : decode cX9_init 31 = .ok (.aload_n 0, 1) := by decide +kernel
theorem dX9_init_32 : decode cX9_init 32 = .ok (.iconst 4, 1) := by decide +kernel
theorem dX9_init_33 : decode cX9_init 33 = .ok (.newarray .int, 2) := by decide +kernel
theorem dX9_init_35 : decode cX9_init 35 = .ok (.putfield 13, 3) := by decide +kernel
theorem dX9_init_38 : decode cX9_init 38 = .ok (.aload_n 0, 1) := by decide +kernel
theorem dX9_init_39 : decode cX9_init 39 = .ok (.sipush 240, 3) := by decide +kernel
theorem dX9_init_42 : decode cX9_init 42 = .ok (.newarray .int, 2) := by decide +kernel
theorem dX9_init_44 : decode cX9_init 44 = .ok (.putfield 16, 3) := by decide +kernel
theorem dX9_init_47 : decode cX9_init 47 = .ok (.aload_n 0, 1) := by decide +kernel
theorem dX9_init_48 : decode cX9_init 48 = .ok (.bipush 30, 2) := by decide +kernel
theorem dX9_init_50 : decode cX9_init 50 = .ok (.newarray .int, 2) := by decide +kernel
theorem dX9_init_52 : decode cX9_init 52 = .ok (.putfield 19, 3) := by decide +kernel
theorem dX9_init_55 : decode cX9_init 55 = .ok (.aload_n 0, 1) := by decide +kernel
theorem dX9_init_56 : decode cX9_init 56 = .ok (.bipush 30, 2) := by decide +kernel
theorem dX9_init_58 : decode cX9_init 58 = .ok (.newarray .boolean, 2) := by decide +kernel
theorem dX9_init_60 : decode cX9_init 60 = .ok (.putfield 22, 3) := by decide +kernel
theorem dX9_init_63 : decode cX9_init 63 = .ok (.aload_n 0, 1) := by decide +kernel
theorem dX9_init_64 : decode cX9_init 64 = .ok (.bipush 30, 2) := by decide +kernel
theorem dX9_init_66 : decode cX9_init 66 = .ok (.newarray .int, 2) := by decide +kernel
theorem dX9_init_68 : decode cX9_init 68 = .ok (.putfield 26, 3) := by decide +kernel
theorem dX9_init_71 : decode cX9_init 71 = .ok (.aload_n 0, 1) := by decide +kernel
theorem dX9_init_72 : decode cX9_init 72 = .ok (.bipush 7, 2) := by decide +kernel
theorem dX9_init_74 : decode cX9_init 74 = .ok (.newarray .int, 2) := by decide +kernel
theorem dX9_init_76 : decode cX9_init 76 = .ok (.putfield 29, 3) := by decide +kernel
theorem dX9_init_79 : decode cX9_init 79 = .ok (.aload_n 0, 1) := by decide +kernel
theorem dX9_init_80 : decode cX9_init 80 = .ok (.bipush 7, 2) := by decide +kernel
theorem dX9_init_82 : decode cX9_init 82 = .ok (.newarray .int, 2) := by decide +kernel
theorem dX9_init_84 : decode cX9_init 84 = .ok (.putfield 32, 3) := by decide +kernel
theorem dX9_init_87 : decode cX9_init 87 = .ok (.aload_n 0, 1) := by decide +kernel
theorem dX9_init_88 : decode cX9_init 88 = .ok (.bipush 7, 2) := by decide +kernel
theorem dX9_init_90 : decode cX9_init 90 = .ok (.newarray .int, 2) := by decide +kernel
theorem dX9_init_92 : decode cX9_init 92 = .ok (.putfield 35, 3) := by decide +kernel
theorem dX9_init_95 : decode cX9_init 95 = .ok (.aload_n 0, 1) := by decide +kernel
theorem dX9_init_96 : decode cX9_init 96 = .ok (.sipush 210, 3) := by decide +kernel
theorem dX9_init_99 : decode cX9_init 99 = .ok (.newarray .long, 2) := by decide +kernel
theorem dX9_init_101 : decode cX9_init 101 = .ok (.putfield 38, 3) := by decide +kernel
theorem dX9_init_104 : decode cX9_init 104 = .ok (.aload_n 0, 1) := by decide +kernel
theorem dX9_init_105 : decode cX9_init 105 = .ok (.sipush 210, 3) := by decide +kernel
theorem dX9_init_108 : decode cX9_init 108 = .ok (.newarray .long, 2) := by decide +kernel
theorem dX9_init_110 : decode cX9_init 110 = .ok (.putfield 42, 3) := by decide +kernel
theorem dX9_init_113 : decode cX9_init 113 = .ok (.aload_n 0, 1) := by decide +kernel
theorem dX9_init_114 : decode cX9_init 114 = .ok (.bipush 10, 2) := by decide +kernel
theorem dX9_init_116 : decode cX9_init 116 = .ok (.newarray .int, 2) := by decide +kernel
theorem dX9_init_118 : decode cX9_init 118 = .ok (.putfield 45, 3) := by decide +kernel
theorem dX9_init_121 : decode cX9_init 121 = .ok (.aload_n 0, 1) := by decide +kernel
theorem dX9_init_122 : decode cX9_init 122 = .ok (.bipush 10, 2) := by decide +kernel
theorem dX9_init_124 : decode cX9_init 124 = .ok (.newarray .int, 2) := by decide +kernel
theorem dX9_init_126 : decode cX9_init 126 = .ok (.putfield 48, 3) := by decide +kernel
theorem dX9_init_129 : decode cX9_init 129 = .ok (.aload_n 0, 1) := by decide +kernel
theorem dX9_init_130 : decode cX9_init 130 = .ok (.bipush 10, 2) := by decide +kernel
theorem dX9_init_132 : decode cX9_init 132 = .ok (.newarray .int, 2) := by decide +kernel
theorem dX9_init_134 : decode cX9_init 134 = .ok (.putfield 51, 3) := by decide +kernel
theorem dX9_init_137 : decode cX9_init 137 = .ok (.aload_n 0, 1) := by decide +kernel
theorem dX9_init_138 : decode cX9_init 138 = .ok (.bipush 10, 2) := by decide +kernel
theorem dX9_init_140 : decode cX9_init 140 = .ok (.newarray .int, 2) := by decide +kernel
theorem dX9_init_142 : decode cX9_init 142 = .ok (.putfield 54, 3) := by decide +kernel
theorem dX9_init_145 : decode cX9_init 145 = .ok (.aload_n 0, 1) := by decide +kernel
theorem dX9_init_146 : decode cX9_init 146 = .ok (.iconst 3, 1) := by decide +kernel
theorem dX9_init_147 : decode cX9_init 147 = .ok (.newarray .int, 2) := by decide +kernel
theorem dX9_init_149 : decode cX9_init 149 = .ok (.putfield 57, 3) := by decide +kernel
theorem dX9_init_152 : decode cX9_init 152 = .ok (.aload_n 0, 1) := by decide +kernel
theorem dX9_init_153 : decode cX9_init 153 = .ok (.bipush 36, 2) := by decide +kernel
theorem dX9_init_155 : decode cX9_init 155 = .ok (.newarray .boolean, 2) := by decide +kernel
theorem dX9_init_157 : decode cX9_init 157 = .ok (.putfield 60, 3) := by decide +kernel
theorem dX9_init_160 : decode cX9_init 160 = .ok (.aload_n 0, 1) := by decide +kernel
theorem dX9_init_161 : decode cX9_init 161 = .ok (.bipush 6, 2) := by decide +kernel
theorem dX9_init_163 : decode cX9_init 163 = .ok (.newarray .int, 2) := by decide +kernel
theorem dX9_init_165 : decode cX9_init 165 = .ok (.putfield 63, 3) := by decide +kernel
theorem dX9_init_168 : decode cX9_init 168 = .ok (.aload_n 0, 1) := by decide +kernel
theorem dX9_init_169 : decode cX9_init 169 = .ok (.sipush 1206, 3) := by decide +kernel
theorem dX9_init_172 : decode cX9_init 172 = .ok (.newarray .int, 2) := by decide +kernel
theorem dX9_init_174 : decode cX9_init 174 = .ok (.putfield 66, 3) := by decide +kernel
theorem dX9_init_177 : decode cX9_init 177 = .ok (.return_, 1) := by decide +kernel
theorem dX9_fails_0 : decode cX9_fails 0 = .ok (.aload_n 0, 1) := by decide +kernel
theorem dX9_fails_1 : decode cX9_fails 1 = .ok (.iload_n 1, 1) := by decide +kernel
theorem dX9_fails_2 : decode cX9_fails 2 = .ok (.putfield 69, 3) := by decide +kernel
theorem dX9_fails_5 : decode cX9_fails 5 = .ok (.bipush (-10), 2) := by decide +kernel
theorem dX9_fails_7 : decode cX9_fails 7 = .ok (.iload_n 1, 1) := by decide +kernel
theorem dX9_fails_8 : decode cX9_fails 8 = .ok (.isub, 1) := by decide +kernel
theorem dX9_fails_9 : decode cX9_fails 9 = .ok (.ireturn, 1) := by decide +kernel
theorem dX9_lost_0 : decode cX9_lost 0 = .ok (.aload_n 0, 1) := by decide +kernel
theorem dX9_lost_1 : decode cX9_lost 1 = .ok (.iload_n 1, 1) := by decide +kernel
theorem dX9_lost_2 : decode cX9_lost 2 = .ok (.putfield 69, 3) := by decide +kernel
theorem dX9_lost_5 : decode cX9_lost 5 = .ok (.ldc2_w 73, 3) := by decide +kernel
theorem dX9_lost_8 : decode cX9_lost 8 = .ok (.lreturn, 1) := by decide +kernel
theorem dX9_within_0 : decode cX9_within 0 = .ok (.iload_n 0, 1) := by decide +kernel
theorem dX9_within_1 : decode cX9_within 1 = .ok (.iload_n 1, 1) := by decide +kernel
theorem dX9_within_2 : decode cX9_within 2 = .ok (.if_icmp .lt 12, 3) := by decide +kernel
theorem dX9_within_5 : decode cX9_within 5 = .ok (.iload_n 0, 1) := by decide +kernel
theorem dX9_within_6 : decode cX9_within 6 = .ok (.iload_n 2, 1) := by decide +kernel
theorem dX9_within_7 : decode cX9_within 7 = .ok (.if_icmp .gt 7, 3) := by decide +kernel
theorem dX9_within_10 : decode cX9_within 10 = .ok (.iconst 1, 1) := by decide +kernel
theorem dX9_within_11 : decode cX9_within 11 = .ok (.goto 4, 3) := by decide +kernel
theorem dX9_within_14 : decode cX9_within 14 = .ok (.iconst 0, 1) := by decide +kernel
theorem dX9_within_15 : decode cX9_within 15 = .ok (.ireturn, 1) := by decide +kernel
theorem dX9_share_0 : decode cX9_share 0 = .ok (.lload_n 0, 1) := by decide +kernel
theorem dX9_share_1 : decode cX9_share 1 = .ok (.lstore 5, 2) := by decide +kernel
theorem dX9_share_3 : decode cX9_share 3 = .ok (.lload_n 2, 1) := by decide +kernel
theorem dX9_share_4 : decode cX9_share 4 = .ok (.lstore 7, 2) := by decide +kernel
theorem dX9_share_6 : decode cX9_share 6 = .ok (.lload 7, 2) := by decide +kernel
theorem dX9_share_8 : decode cX9_share 8 = .ok (.lconst 0, 1) := by decide +kernel
theorem dX9_share_9 : decode cX9_share 9 = .ok (.lcmp, 1) := by decide +kernel
theorem dX9_share_10 : decode cX9_share 10 = .ok (.ifCond .eq 21, 3) := by decide +kernel
theorem dX9_share_13 : decode cX9_share 13 = .ok (.lload 5, 2) := by decide +kernel
theorem dX9_share_15 : decode cX9_share 15 = .ok (.lload 7, 2) := by decide +kernel
theorem dX9_share_17 : decode cX9_share 17 = .ok (.lrem, 1) := by decide +kernel
theorem dX9_share_18 : decode cX9_share 18 = .ok (.lstore 9, 2) := by decide +kernel
theorem dX9_share_20 : decode cX9_share 20 = .ok (.lload 7, 2) := by decide +kernel
theorem dX9_share_22 : decode cX9_share 22 = .ok (.lstore 5, 2) := by decide +kernel
theorem dX9_share_24 : decode cX9_share 24 = .ok (.lload 9, 2) := by decide +kernel
theorem dX9_share_26 : decode cX9_share 26 = .ok (.lstore 7, 2) := by decide +kernel
theorem dX9_share_28 : decode cX9_share 28 = .ok (.goto (-22), 3) := by decide +kernel
theorem dX9_share_31 : decode cX9_share 31 = .ok (.iload 4, 2) := by decide +kernel
theorem dX9_share_33 : decode cX9_share 33 = .ok (.ifCond .ne 10, 3) := by decide +kernel
theorem dX9_share_36 : decode cX9_share 36 = .ok (.lload_n 0, 1) := by decide +kernel
theorem dX9_share_37 : decode cX9_share 37 = .ok (.lload 5, 2) := by decide +kernel
theorem dX9_share_39 : decode cX9_share 39 = .ok (.ldiv, 1) := by decide +kernel
theorem dX9_share_40 : decode cX9_share 40 = .ok (.goto 7, 3) := by decide +kernel
theorem dX9_share_43 : decode cX9_share 43 = .ok (.lload_n 2, 1) := by decide +kernel
theorem dX9_share_44 : decode cX9_share 44 = .ok (.lload 5, 2) := by decide +kernel
theorem dX9_share_46 : decode cX9_share 46 = .ok (.ldiv, 1) := by decide +kernel
theorem dX9_share_47 : decode cX9_share 47 = .ok (.lreturn, 1) := by decide +kernel
theorem dX9_isSheet_0 : decode cX9_isSheet 0 = .ok (.iload_n 0, 1) := by decide +kernel
theorem dX9_isSheet_1 : decode cX9_isSheet 1 = .ok (.iconst 0, 1) := by decide +kernel
theorem dX9_isSheet_2 : decode cX9_isSheet 2 = .ok (.iconst 3, 1) := by decide +kernel
theorem dX9_isSheet_3 : decode cX9_isSheet 3 = .ok (.invokestatic 75, 3) := by decide +kernel
theorem dX9_isSheet_6 : decode cX9_isSheet 6 = .ok (.ireturn, 1) := by decide +kernel
theorem dX9_isSort_0 : decode cX9_isSort 0 = .ok (.iload_n 0, 1) := by decide +kernel
theorem dX9_isSort_1 : decode cX9_isSort 1 = .ok (.iconst 0, 1) := by decide +kernel
theorem dX9_isSort_2 : decode cX9_isSort 2 = .ok (.iconst 2, 1) := by decide +kernel
theorem dX9_isSort_3 : decode cX9_isSort 3 = .ok (.invokestatic 75, 3) := by decide +kernel
theorem dX9_isSort_6 : decode cX9_isSort 6 = .ok (.ireturn, 1) := by decide +kernel
theorem dX9_against_0 : decode cX9_against 0 = .ok (.aload_n 0, 1) := by decide +kernel
theorem dX9_against_1 : decode cX9_against 1 = .ok (.getfield 9, 3) := by decide +kernel
theorem dX9_against_4 : decode cX9_against 4 = .ok (.iload_n 1, 1) := by decide +kernel
theorem dX9_against_5 : decode cX9_against 5 = .ok (.iaload, 1) := by decide +kernel
theorem dX9_against_6 : decode cX9_against 6 = .ok (.bipush (-9), 2) := by decide +kernel
theorem dX9_against_8 : decode cX9_against 8 = .ok (.if_icmp .eq 15, 3) := by decide +kernel
theorem dX9_against_11 : decode cX9_against 11 = .ok (.aload_n 0, 1) := by decide +kernel
theorem dX9_against_12 : decode cX9_against 12 = .ok (.getfield 9, 3) := by decide +kernel
theorem dX9_against_15 : decode cX9_against 15 = .ok (.iload_n 1, 1) := by decide +kernel
theorem dX9_against_16 : decode cX9_against 16 = .ok (.iaload, 1) := by decide +kernel
theorem dX9_against_17 : decode cX9_against 17 = .ok (.iload_n 2, 1) := by decide +kernel
theorem dX9_against_18 : decode cX9_against 18 = .ok (.if_icmp .eq 5, 3) := by decide +kernel
theorem dX9_against_21 : decode cX9_against 21 = .ok (.iconst 2, 1) := by decide +kernel
theorem dX9_against_22 : decode cX9_against 22 = .ok (.ireturn, 1) := by decide +kernel
theorem dX9_against_23 : decode cX9_against 23 = .ok (.aload_n 0, 1) := by decide +kernel
theorem dX9_against_24 : decode cX9_against 24 = .ok (.getfield 9, 3) := by decide +kernel
theorem dX9_against_27 : decode cX9_against 27 = .ok (.iload_n 1, 1) := by decide +kernel
theorem dX9_against_28 : decode cX9_against 28 = .ok (.iaload, 1) := by decide +kernel
theorem dX9_against_29 : decode cX9_against 29 = .ok (.bipush (-9), 2) := by decide +kernel
theorem dX9_against_31 : decode cX9_against 31 = .ok (.if_icmp .ne 5, 3) := by decide +kernel
theorem dX9_against_34 : decode cX9_against 34 = .ok (.iconst 1, 1) := by decide +kernel
theorem dX9_against_35 : decode cX9_against 35 = .ok (.ireturn, 1) := by decide +kernel
theorem dX9_against_36 : decode cX9_against 36 = .ok (.iload 4, 2) := by decide +kernel
theorem dX9_against_38 : decode cX9_against 38 = .ok (.ifCond .ge 5, 3) := by decide +kernel
theorem dX9_against_41 : decode cX9_against 41 = .ok (.iconst 4, 1) := by decide +kernel
theorem dX9_against_42 : decode cX9_against 42 = .ok (.ireturn, 1) := by decide +kernel
theorem dX9_against_43 : decode cX9_against 43 = .ok (.iload_n 3, 1) := by decide +kernel
theorem dX9_against_44 : decode cX9_against 44 = .ok (.ifCond .lt 26, 3) := by decide +kernel
theorem dX9_against_47 : decode cX9_against 47 = .ok (.iload_n 3, 1) := by decide +kernel
theorem dX9_against_48 : decode cX9_against 48 = .ok (.aload_n 0, 1) := by decide +kernel
theorem dX9_against_49 : decode cX9_against 49 = .ok (.getfield 13, 3) := by decide +kernel
theorem dX9_against_52 : decode cX9_against 52 = .ok (.iload_n 1, 1) := by decide +kernel
theorem dX9_against_53 : decode cX9_against 53 = .ok (.iaload, 1) := by decide +kernel
theorem dX9_against_54 : decode cX9_against 54 = .ok (.if_icmp .gt 16, 3) := by decide +kernel
theorem dX9_against_57 : decode cX9_against 57 = .ok (.iload 4, 2) := by decide +kernel
theorem dX9_against_59 : decode cX9_against 59 = .ok (.aload_n 0, 1) := by decide +kernel
theorem dX9_against_60 : decode cX9_against 60 = .ok (.getfield 13, 3) := by decide +kernel
theorem dX9_against_63 : decode cX9_against 63 = .ok (.iload_n 1, 1) := by decide +kernel
theorem dX9_against_64 : decode cX9_against 64 = .ok (.iaload, 1) := by decide +kernel
theorem dX9_against_65 : decode cX9_against 65 = .ok (.iload_n 3, 1) := by decide +kernel
theorem dX9_against_66 : decode cX9_against 66 = .ok (.isub, 1) := by decide +kernel
theorem dX9_against_67 : decode cX9_against 67 = .ok (.if_icmp .le 7, 3) := by decide +kernel
theorem dX9_against_70 : decode cX9_against 70 = .ok (.iconst 3, 1) := by decide +kernel
theorem dX9_against_71 : decode cX9_against 71 = .ok (.goto 4, 3) := by decide +kernel
theorem dX9_against_74 : decode cX9_against 74 = .ok (.iconst 0, 1) := by decide +kernel
theorem dX9_against_75 : decode cX9_against 75 = .ok (.ireturn, 1) := by decide +kernel
theorem dX9_all_0 : decode cX9_all 0 = .ok (.aload_n 0, 1) := by decide +kernel
theorem dX9_all_1 : decode cX9_all 1 = .ok (.getfield 79, 3) := by decide +kernel
theorem dX9_all_4 : decode cX9_all 4 = .ok (.aload_n 0, 1) := by decide +kernel
theorem dX9_all_5 : decode cX9_all 5 = .ok (.getfield 82, 3) := by decide +kernel
theorem dX9_all_8 : decode cX9_all 8 = .ok (.imul, 1) := by decide +kernel
theorem dX9_all_9 : decode cX9_all 9 = .ok (.ireturn, 1) := by decide +kernel
theorem dX9_isCell_0 : decode cX9_isCell 0 = .ok (.iload_n 1, 1) := by decide +kernel
theorem dX9_isCell_1 : decode cX9_isCell 1 = .ok (.ifCond .lt 15, 3) := by decide +kernel
theorem dX9_isCell_4 : decode cX9_isCell 4 = .ok (.iload_n 1, 1) := by decide +kernel
theorem dX9_isCell_5 : decode cX9_isCell 5 = .ok (.aload_n 0, 1) := by decide +kernel
theorem dX9_isCell_6 : decode cX9_isCell 6 = .ok (.invokevirtual 85, 3) := by decide +kernel
theorem dX9_isCell_9 : decode cX9_isCell 9 = .ok (.if_icmp .ge 7, 3) := by decide +kernel
theorem dX9_isCell_12 : decode cX9_isCell 12 = .ok (.iconst 1, 1) := by decide +kernel
theorem dX9_isCell_13 : decode cX9_isCell 13 = .ok (.goto 4, 3) := by decide +kernel
theorem dX9_isCell_16 : decode cX9_isCell 16 = .ok (.iconst 0, 1) := by decide +kernel
theorem dX9_isCell_17 : decode cX9_isCell 17 = .ok (.ireturn, 1) := by decide +kernel
theorem dX9_digitAt_0 : decode cX9_digitAt 0 = .ok (.iload_n 1, 1) := by decide +kernel
theorem dX9_digitAt_1 : decode cX9_digitAt 1 = .ok (.iload_n 2, 1) := by decide +kernel
theorem dX9_digitAt_2 : decode cX9_digitAt 2 = .ok (.if_icmp .ge 31, 3) := by decide +kernel
theorem dX9_digitAt_5 : decode cX9_digitAt 5 = .ok (.aload_n 0, 1) := by decide +kernel
theorem dX9_digitAt_6 : decode cX9_digitAt 6 = .ok (.getfield 16, 3) := by decide +kernel
theorem dX9_digitAt_9 : decode cX9_digitAt 9 = .ok (.iload_n 1, 1) := by decide +kernel
theorem dX9_digitAt_10 : decode cX9_digitAt 10 = .ok (.iaload, 1) := by decide +kernel
theorem dX9_digitAt_11 : decode cX9_digitAt 11 = .ok (.bipush 48, 2) := by decide +kernel
theorem dX9_digitAt_13 : decode cX9_digitAt 13 = .ok (.bipush 57, 2) := by decide +kernel
theorem dX9_digitAt_15 : decode cX9_digitAt 15 = .ok (.invokestatic 75, 3) := by decide +kernel
theorem dX9_digitAt_18 : decode cX9_digitAt 18 = .ok (.ifCond .eq 15, 3) := by decide +kernel
theorem dX9_digitAt_21 : decode cX9_digitAt 21 = .ok (.aload_n 0, 1) := by decide +kernel
theorem dX9_digitAt_22 : decode cX9_digitAt 22 = .ok (.getfield 16, 3) := by decide +kernel
theorem dX9_digitAt_25 : decode cX9_digitAt 25 = .ok (.iload_n 1, 1) := by decide +kernel
theorem dX9_digitAt_26 : decode cX9_digitAt 26 = .ok (.iaload, 1) := by decide +kernel
theorem dX9_digitAt_27 : decode cX9_digitAt 27 = .ok (.bipush 48, 2) := by decide +kernel
theorem dX9_digitAt_29 : decode cX9_digitAt 29 = .ok (.isub, 1) := by decide +kernel
theorem dX9_digitAt_30 : decode cX9_digitAt 30 = .ok (.goto 5, 3) := by decide +kernel
theorem dX9_digitAt_33 : decode cX9_digitAt 33 = .ok (.bipush (-9), 2) := by decide +kernel
theorem dX9_digitAt_35 : decode cX9_digitAt 35 = .ok (.ireturn, 1) := by decide +kernel
theorem dX9_isCode_0 : decode cX9_isCode 0 = .ok (.aload_n 0, 1) := by decide +kernel
theorem dX9_isCode_1 : decode cX9_isCode 1 = .ok (.getfield 89, 3) := by decide +kernel
theorem dX9_isCode_4 : decode cX9_isCode 4 = .ok (.iload_n 2, 1) := by decide +kernel
theorem dX9_isCode_5 : decode cX9_isCode 5 = .ok (.if_icmp .ge 20, 3) := by decide +kernel
theorem dX9_isCode_8 : decode cX9_isCode 8 = .ok (.aload_n 0, 1) := by decide +kernel
theorem dX9_isCode_9 : decode cX9_isCode 9 = .ok (.getfield 16, 3) := by decide +kernel
theorem dX9_isCode_12 : decode cX9_isCode 12 = .ok (.aload_n 0, 1) := by decide +kernel
theorem dX9_isCode_13 : decode cX9_isCode 13 = .ok (.getfield 89, 3) := by decide +kernel
theorem dX9_isCode_16 : decode cX9_isCode 16 = .ok (.iaload, 1) := by decide +kernel
theorem dX9_isCode_17 : decode cX9_isCode 17 = .ok (.iload_n 1, 1) := by decide +kernel
theorem dX9_isCode_18 : decode cX9_isCode 18 = .ok (.if_icmp .ne 7, 3) := by decide +kernel
theorem dX9_isCode_21 : decode cX9_isCode 21 = .ok (.iconst 1, 1) := by decide +kernel
theorem dX9_isCode_22 : decode cX9_isCode 22 = .ok (.goto 4, 3) := by decide +kernel
theorem dX9_isCode_25 : decode cX9_isCode 25 = .ok (.iconst 0, 1) := by decide +kernel
theorem dX9_isCode_26 : decode cX9_isCode 26 = .ok (.ireturn, 1) := by decide +kernel
theorem dX9_land_0 : decode cX9_land 0 = .ok (.aload_n 0, 1) := by decide +kernel
theorem dX9_land_1 : decode cX9_land 1 = .ok (.iconst 0, 1) := by decide +kernel
theorem dX9_land_2 : decode cX9_land 2 = .ok (.putfield 69, 3) := by decide +kernel
theorem dX9_land_5 : decode cX9_land 5 = .ok (.iload_n 1, 1) := by decide +kernel
theorem dX9_land_6 : decode cX9_land 6 = .ok (.invokestatic 92, 3) := by decide +kernel
theorem dX9_land_9 : decode cX9_land 9 = .ok (.ifCond .ne 5, 3) := by decide +kernel
theorem dX9_land_12 : decode cX9_land 12 = .ok (.iconst (-1), 1) := by decide +kernel
theorem dX9_land_13 : decode cX9_land 13 = .ok (.ireturn, 1) := by decide +kernel
theorem dX9_land_14 : decode cX9_land 14 = .ok (.iload_n 2, 1) := by decide +kernel
theorem dX9_land_15 : decode cX9_land 15 = .ok (.invokestatic 96, 3) := by decide +kernel
theorem dX9_land_18 : decode cX9_land 18 = .ok (.ifCond .ne 6, 3) := by decide +kernel
theorem dX9_land_21 : decode cX9_land 21 = .ok (.bipush (-2), 2) := by decide +kernel
theorem dX9_land_23 : decode cX9_land 23 = .ok (.ireturn, 1) := by decide +kernel
theorem dX9_land_24 : decode cX9_land 24 = .ok (.aload_n 0, 1) := by decide +kernel
theorem dX9_land_25 : decode cX9_land 25 = .ok (.iload_n 1, 1) := by decide +kernel
theorem dX9_land_26 : decode cX9_land 26 = .ok (.iload_n 2, 1) := by decide +kernel
theorem dX9_land_27 : decode cX9_land 27 = .ok (.iload_n 3, 1) := by decide +kernel
theorem dX9_land_28 : decode cX9_land 28 = .ok (.iload 4, 2) := by decide +kernel
theorem dX9_land_30 : decode cX9_land 30 = .ok (.invokevirtual 99, 3) := by decide +kernel
theorem dX9_land_33 : decode cX9_land 33 = .ok (.istore 5, 2) := by decide +kernel
theorem dX9_land_35 : decode cX9_land 35 = .ok (.iload 5, 2) := by decide +kernel
theorem dX9_land_37 : decode cX9_land 37 = .ok (.ifCond .eq 10, 3) := by decide +kernel
theorem dX9_land_40 : decode cX9_land 40 = .ok (.aload_n 0, 1) := by decide +kernel
theorem dX9_land_41 : decode cX9_land 41 = .ok (.iload 5, 2) := by decide +kernel
theorem dX9_land_43 : decode cX9_land 43 = .ok (.invokevirtual 103, 3) := by decide +kernel
theorem dX9_land_46 : decode cX9_land 46 = .ok (.ireturn, 1) := by decide +kernel
theorem dX9_land_47 : decode cX9_land 47 = .ok (.bipush 60, 2) := by decide +kernel
theorem dX9_land_49 : decode cX9_land 49 = .ok (.iload_n 1, 1) := by decide +kernel
theorem dX9_land_50 : decode cX9_land 50 = .ok (.imul, 1) := by decide +kernel
theorem dX9_land_51 : decode cX9_land 51 = .ok (.iload_n 3, 1) := by decide +kernel
theorem dX9_land_52 : decode cX9_land 52 = .ok (.iadd, 1) := by decide +kernel
theorem dX9_land_53 : decode cX9_land 53 = .ok (.istore 6, 2) := by decide +kernel
theorem dX9_land_55 : decode cX9_land 55 = .ok (.aload_n 0, 1) := by decide +kernel
theorem dX9_land_56 : decode cX9_land 56 = .ok (.iload 6, 2) := by decide +kernel
theorem dX9_land_58 : decode cX9_land 58 = .ok (.putfield 89, 3) := by decide +kernel
theorem dX9_land_61 : decode cX9_land 61 = .ok (.aload_n 0, 1) := by decide +kernel
theorem dX9_land_62 : decode cX9_land 62 = .ok (.iload 6, 2) := by decide +kernel
theorem dX9_land_64 : decode cX9_land 64 = .ok (.iload 4, 2) := by decide +kernel
theorem dX9_land_66 : decode cX9_land 66 = .ok (.iadd, 1) := by decide +kernel
theorem dX9_land_67 : decode cX9_land 67 = .ok (.invokevirtual 107, 3) := by decide +kernel
theorem dX9_land_70 : decode cX9_land 70 = .ok (.ifCond .ne 14, 3) := by decide +kernel
theorem dX9_land_73 : decode cX9_land 73 = .ok (.bipush (-100), 2) := by decide +kernel
theorem dX9_land_75 : decode cX9_land 75 = .ok (.aload_n 0, 1) := by decide +kernel
theorem dX9_land_76 : decode cX9_land 76 = .ok (.getfield 89, 3) := by decide +kernel
theorem dX9_land_79 : decode cX9_land 79 = .ok (.iload 6, 2) := by decide +kernel
theorem dX9_land_81 : decode cX9_land 81 = .ok (.isub, 1) := by decide +kernel
theorem dX9_land_82 : decode cX9_land 82 = .ok (.isub, 1) := by decide +kernel
theorem dX9_land_83 : decode cX9_land 83 = .ok (.ireturn, 1) := by decide +kernel
theorem dX9_land_84 : decode cX9_land 84 = .ok (.aload_n 0, 1) := by decide +kernel
theorem dX9_land_85 : decode cX9_land 85 = .ok (.aload_n 0, 1) := by decide +kernel
theorem dX9_land_86 : decode cX9_land 86 = .ok (.getfield 110, 3) := by decide +kernel
theorem dX9_land_89 : decode cX9_land 89 = .ok (.putfield 79, 3) := by decide +kernel
theorem dX9_land_92 : decode cX9_land 92 = .ok (.aload_n 0, 1) := by decide +kernel
theorem dX9_land_93 : decode cX9_land 93 = .ok (.aload_n 0, 1) := by decide +kernel
theorem dX9_land_94 : decode cX9_land 94 = .ok (.getfield 113, 3) := by decide +kernel
theorem dX9_land_97 : decode cX9_land 97 = .ok (.putfield 82, 3) := by decide +kernel
theorem dX9_land_100 : decode cX9_land 100 = .ok (.iconst 0, 1) := by decide +kernel
theorem dX9_land_101 : decode cX9_land 101 = .ok (.istore 7, 2) := by decide +kernel
theorem dX9_land_103 : decode cX9_land 103 = .ok (.iload 7, 2) := by decide +kernel
theorem dX9_land_105 : decode cX9_land 105 = .ok (.aload_n 0, 1) := by decide +kernel
theorem dX9_land_106 : decode cX9_land 106 = .ok (.invokevirtual 85, 3) := by decide +kernel
theorem dX9_land_109 : decode cX9_land 109 = .ok (.if_icmp .ge 31, 3) := by decide +kernel
theorem dX9_land_112 : decode cX9_land 112 = .ok (.aload_n 0, 1) := by decide +kernel
theorem dX9_land_113 : decode cX9_land 113 = .ok (.getfield 19, 3) := by decide +kernel
theorem dX9_land_116 : decode cX9_land 116 = .ok (.iload 7, 2) := by decide +kernel
theorem dX9_land_118 : decode cX9_land 118 = .ok (.aload_n 0, 1) := by decide +kernel
theorem dX9_land_119 : decode cX9_land 119 = .ok (.getfield 26, 3) := by decide +kernel
theorem dX9_land_122 : decode cX9_land 122 = .ok (.iload 7, 2) := by decide +kernel
theorem dX9_land_124 : decode cX9_land 124 = .ok (.iaload, 1) := by decide +kernel
theorem dX9_land_125 : decode cX9_land 125 = .ok (.iastore, 1) := by decide +kernel
theorem dX9_land_126 : decode cX9_land 126 = .ok (.aload_n 0, 1) := by decide +kernel
theorem dX9_land_127 : decode cX9_land 127 = .ok (.getfield 22, 3) := by decide +kernel
theorem dX9_land_130 : decode cX9_land 130 = .ok (.iload 7, 2) := by decide +kernel
theorem dX9_land_132 : decode cX9_land 132 = .ok (.iconst 0, 1) := by decide +kernel
theorem dX9_land_133 : decode cX9_land 133 = .ok (.bastore, 1) := by decide +kernel
theorem dX9_land_134 : decode cX9_land 134 = .ok (.iinc 7 1, 3) := by decide +kernel
theorem dX9_land_137 : decode cX9_land 137 = .ok (.goto (-34), 3) := by decide +kernel
theorem dX9_land_140 : decode cX9_land 140 = .ok (.aload_n 0, 1) := by decide +kernel
theorem dX9_land_141 : decode cX9_land 141 = .ok (.iconst 0, 1) := by decide +kernel
theorem dX9_land_142 : decode cX9_land 142 = .ok (.putfield 116, 3) := by decide +kernel
theorem dX9_land_145 : decode cX9_land 145 = .ok (.aload_n 0, 1) := by decide +kernel
theorem dX9_land_146 : decode cX9_land 146 = .ok (.iconst 0, 1) := by decide +kernel
theorem dX9_land_147 : decode cX9_land 147 = .ok (.putfield 119, 3) := by decide +kernel
theorem dX9_land_150 : decode cX9_land 150 = .ok (.aload_n 0, 1) := by decide +kernel
theorem dX9_land_151 : decode cX9_land 151 = .ok (.bipush 10, 2) := by decide +kernel
theorem dX9_land_153 : decode cX9_land 153 = .ok (.putfield 122, 3) := by decide +kernel
theorem dX9_land_156 : decode cX9_land 156 = .ok (.aload_n 0, 1) := by decide +kernel
theorem dX9_land_157 : decode cX9_land 157 = .ok (.invokevirtual 85, 3) := by decide +kernel
theorem dX9_land_160 : decode cX9_land 160 = .ok (.ireturn, 1) := by decide +kernel
theorem dX9_readLand_0 : decode cX9_readLand 0 = .ok (.aload_n 0, 1) := by decide +kernel
theorem dX9_readLand_1 : decode cX9_readLand 1 = .ok (.bipush 103, 2) := by decide +kernel
theorem dX9_readLand_3 : decode cX9_readLand 3 = .ok (.iload_n 1, 1) := by decide +kernel
theorem dX9_readLand_4 : decode cX9_readLand 4 = .ok (.invokevirtual 125, 3) := by decide +kernel
theorem dX9_readLand_7 : decode cX9_readLand 7 = .ok (.ifCond .ne 5, 3) := by decide +kernel
theorem dX9_readLand_10 : decode cX9_readLand 10 = .ok (.iconst 0, 1) := by decide +kernel
theorem dX9_readLand_11 : decode cX9_readLand 11 = .ok (.ireturn, 1) := by decide +kernel
theorem dX9_readLand_12 : decode cX9_readLand 12 = .ok (.aload_n 0, 1) := by decide +kernel
theorem dX9_readLand_13 : decode cX9_readLand 13 = .ok (.dup, 1) := by decide +kernel
theorem dX9_readLand_14 : decode cX9_readLand 14 = .ok (.getfield 89, 3) := by decide +kernel
theorem dX9_readLand_17 : decode cX9_readLand 17 = .ok (.iconst 1, 1) := by decide +kernel
theorem dX9_readLand_18 : decode cX9_readLand 18 = .ok (.iadd, 1) := by decide +kernel
theorem dX9_readLand_19 : decode cX9_readLand 19 = .ok (.putfield 89, 3) := by decide +kernel
theorem dX9_readLand_22 : decode cX9_readLand 22 = .ok (.aload_n 0, 1) := by decide +kernel
theorem dX9_readLand_23 : decode cX9_readLand 23 = .ok (.aload_n 0, 1) := by decide +kernel
theorem dX9_readLand_24 : decode cX9_readLand 24 = .ok (.aload_n 0, 1) := by decide +kernel
theorem dX9_readLand_25 : decode cX9_readLand 25 = .ok (.getfield 89, 3) := by decide +kernel
theorem dX9_readLand_28 : decode cX9_readLand 28 = .ok (.iload_n 1, 1) := by decide +kernel
theorem dX9_readLand_29 : decode cX9_readLand 29 = .ok (.invokevirtual 129, 3) := by decide +kernel
theorem dX9_readLand_32 : decode cX9_readLand 32 = .ok (.putfield 110, 3) := by decide +kernel
theorem dX9_readLand_35 : decode cX9_readLand 35 = .ok (.aload_n 0, 1) := by decide +kernel
theorem dX9_readLand_36 : decode cX9_readLand 36 = .ok (.getfield 110, 3) := by decide +kernel
theorem dX9_readLand_39 : decode cX9_readLand 39 = .ok (.iconst 2, 1) := by decide +kernel
theorem dX9_readLand_40 : decode cX9_readLand 40 = .ok (.iconst 5, 1) := by decide +kernel
theorem dX9_readLand_41 : decode cX9_readLand 41 = .ok (.invokestatic 75, 3) := by decide +kernel
theorem dX9_readLand_44 : decode cX9_readLand 44 = .ok (.ifCond .ne 5, 3) := by decide +kernel
theorem dX9_readLand_47 : decode cX9_readLand 47 = .ok (.iconst 0, 1) := by decide +kernel
theorem dX9_readLand_48 : decode cX9_readLand 48 = .ok (.ireturn, 1) := by decide +kernel
theorem dX9_readLand_49 : decode cX9_readLand 49 = .ok (.aload_n 0, 1) := by decide +kernel
theorem dX9_readLand_50 : decode cX9_readLand 50 = .ok (.dup, 1) := by decide +kernel
theorem dX9_readLand_51 : decode cX9_readLand 51 = .ok (.getfield 89, 3) := by decide +kernel
theorem dX9_readLand_54 : decode cX9_readLand 54 = .ok (.iconst 1, 1) := by decide +kernel
theorem dX9_readLand_55 : decode cX9_readLand 55 = .ok (.iadd, 1) := by decide +kernel
theorem dX9_readLand_56 : decode cX9_readLand 56 = .ok (.putfield 89, 3) := by decide +kernel
theorem dX9_readLand_59 : decode cX9_readLand 59 = .ok (.aload_n 0, 1) := by decide +kernel
theorem dX9_readLand_60 : decode cX9_readLand 60 = .ok (.aload_n 0, 1) := by decide +kernel
theorem dX9_readLand_61 : decode cX9_readLand 61 = .ok (.aload_n 0, 1) := by decide +kernel
theorem dX9_readLand_62 : decode cX9_readLand 62 = .ok (.getfield 89, 3) := by decide +kernel
theorem dX9_readLand_65 : decode cX9_readLand 65 = .ok (.iload_n 1, 1) := by decide +kernel
theorem dX9_readLand_66 : decode cX9_readLand 66 = .ok (.invokevirtual 129, 3) := by decide +kernel
theorem dX9_readLand_69 : decode cX9_readLand 69 = .ok (.putfield 113, 3) := by decide +kernel
theorem dX9_readLand_72 : decode cX9_readLand 72 = .ok (.aload_n 0, 1) := by decide +kernel
theorem dX9_readLand_73 : decode cX9_readLand 73 = .ok (.getfield 113, 3) := by decide +kernel
theorem dX9_readLand_76 : decode cX9_readLand 76 = .ok (.iconst 2, 1) := by decide +kernel
theorem dX9_readLand_77 : decode cX9_readLand 77 = .ok (.bipush 6, 2) := by decide +kernel
theorem dX9_readLand_79 : decode cX9_readLand 79 = .ok (.invokestatic 75, 3) := by decide +kernel
theorem dX9_readLand_82 : decode cX9_readLand 82 = .ok (.ifCond .ne 5, 3) := by decide +kernel
theorem dX9_readLand_85 : decode cX9_readLand 85 = .ok (.iconst 0, 1) := by decide +kernel
theorem dX9_readLand_86 : decode cX9_readLand 86 = .ok (.ireturn, 1) := by decide +kernel
theorem dX9_readLand_87 : decode cX9_readLand 87 = .ok (.aload_n 0, 1) := by decide +kernel
theorem dX9_readLand_88 : decode cX9_readLand 88 = .ok (.dup, 1) := by decide +kernel
theorem dX9_readLand_89 : decode cX9_readLand 89 = .ok (.getfield 89, 3) := by decide +kernel
theorem dX9_readLand_92 : decode cX9_readLand 92 = .ok (.iconst 1, 1) := by decide +kernel
theorem dX9_readLand_93 : decode cX9_readLand 93 = .ok (.iadd, 1) := by decide +kernel
theorem dX9_readLand_94 : decode cX9_readLand 94 = .ok (.putfield 89, 3) := by decide +kernel
theorem dX9_readLand_97 : decode cX9_readLand 97 = .ok (.iconst 0, 1) := by decide +kernel
theorem dX9_readLand_98 : decode cX9_readLand 98 = .ok (.istore_n 2, 1) := by decide +kernel
theorem dX9_readLand_99 : decode cX9_readLand 99 = .ok (.iload_n 2, 1) := by decide +kernel
theorem dX9_readLand_100 : decode cX9_readLand 100 = .ok (.aload_n 0, 1) := by decide +kernel
theorem dX9_readLand_101 : decode cX9_readLand 101 = .ok (.getfield 110, 3) := by decide +kernel
theorem dX9_readLand_104 : decode cX9_readLand 104 = .ok (.if_icmp .ge 92, 3) := by decide +kernel
theorem dX9_readLand_107 : decode cX9_readLand 107 = .ok (.aload_n 0, 1) := by decide +kernel
theorem dX9_readLand_108 : decode cX9_readLand 108 = .ok (.bipush 59, 2) := by decide +kernel
theorem dX9_readLand_110 : decode cX9_readLand 110 = .ok (.iload_n 1, 1) := by decide +kernel
theorem dX9_readLand_111 : decode cX9_readLand 111 = .ok (.invokevirtual 125, 3) := by decide +kernel
theorem dX9_readLand_114 : decode cX9_readLand 114 = .ok (.ifCond .ne 5, 3) := by decide +kernel
theorem dX9_readLand_117 : decode cX9_readLand 117 = .ok (.iconst 0, 1) := by decide +kernel
theorem dX9_readLand_118 : decode cX9_readLand 118 = .ok (.ireturn, 1) := by decide +kernel
theorem dX9_readLand_119 : decode cX9_readLand 119 = .ok (.aload_n 0, 1) := by decide +kernel
theorem dX9_readLand_120 : decode cX9_readLand 120 = .ok (.dup, 1) := by decide +kernel
theorem dX9_readLand_121 : decode cX9_readLand 121 = .ok (.getfield 89, 3) := by decide +kernel
theorem dX9_readLand_124 : decode cX9_readLand 124 = .ok (.iconst 1, 1) := by decide +kernel
theorem dX9_readLand_125 : decode cX9_readLand 125 = .ok (.iadd, 1) := by decide +kernel
theorem dX9_readLand_126 : decode cX9_readLand 126 = .ok (.putfield 89, 3) := by decide +kernel
theorem dX9_readLand_129 : decode cX9_readLand 129 = .ok (.iconst 0, 1) := by decide +kernel
theorem dX9_readLand_130 : decode cX9_readLand 130 = .ok (.istore_n 3, 1) := by decide +kernel
theorem dX9_readLand_131 : decode cX9_readLand 131 = .ok (.iload_n 3, 1) := by decide +kernel
theorem dX9_readLand_132 : decode cX9_readLand 132 = .ok (.aload_n 0, 1) := by decide +kernel
theorem dX9_readLand_133 : decode cX9_readLand 133 = .ok (.getfield 113, 3) := by decide +kernel
theorem dX9_readLand_136 : decode cX9_readLand 136 = .ok (.if_icmp .ge 54, 3) := by decide +kernel
theorem dX9_readLand_139 : decode cX9_readLand 139 = .ok (.aload_n 0, 1) := by decide +kernel
theorem dX9_readLand_140 : decode cX9_readLand 140 = .ok (.aload_n 0, 1) := by decide +kernel
theorem dX9_readLand_141 : decode cX9_readLand 141 = .ok (.getfield 89, 3) := by decide +kernel
theorem dX9_readLand_144 : decode cX9_readLand 144 = .ok (.iload_n 1, 1) := by decide +kernel
theorem dX9_readLand_145 : decode cX9_readLand 145 = .ok (.invokevirtual 129, 3) := by decide +kernel
theorem dX9_readLand_148 : decode cX9_readLand 148 = .ok (.istore 4, 2) := by decide +kernel
theorem dX9_readLand_150 : decode cX9_readLand 150 = .ok (.iload 4, 2) := by decide +kernel
theorem dX9_readLand_152 : decode cX9_readLand 152 = .ok (.bipush (-9), 2) := by decide +kernel
theorem dX9_readLand_154 : decode cX9_readLand 154 = .ok (.if_icmp .ne 5, 3) := by decide +kernel
theorem dX9_readLand_157 : decode cX9_readLand 157 = .ok (.iconst 0, 1) := by decide +kernel
theorem dX9_readLand_158 : decode cX9_readLand 158 = .ok (.ireturn, 1) := by decide +kernel
theorem dX9_readLand_159 : decode cX9_readLand 159 = .ok (.aload_n 0, 1) := by decide +kernel
theorem dX9_readLand_160 : decode cX9_readLand 160 = .ok (.getfield 26, 3) := by decide +kernel
theorem dX9_readLand_163 : decode cX9_readLand 163 = .ok (.aload_n 0, 1) := by decide +kernel
theorem dX9_readLand_164 : decode cX9_readLand 164 = .ok (.getfield 113, 3) := by decide +kernel
theorem dX9_readLand_167 : decode cX9_readLand 167 = .ok (.iload_n 2, 1) := by decide +kernel
theorem dX9_readLand_168 : decode cX9_readLand 168 = .ok (.imul, 1) := by decide +kernel
theorem dX9_readLand_169 : decode cX9_readLand 169 = .ok (.iload_n 3, 1) := by decide +kernel
theorem dX9_readLand_170 : decode cX9_readLand 170 = .ok (.iadd, 1) := by decide +kernel
theorem dX9_readLand_171 : decode cX9_readLand 171 = .ok (.iload 4, 2) := by decide +kernel
theorem dX9_readLand_173 : decode cX9_readLand 173 = .ok (.iastore, 1) := by decide +kernel
theorem dX9_readLand_174 : decode cX9_readLand 174 = .ok (.aload_n 0, 1) := by decide +kernel
theorem dX9_readLand_175 : decode cX9_readLand 175 = .ok (.dup, 1) := by decide +kernel
theorem dX9_readLand_176 : decode cX9_readLand 176 = .ok (.getfield 89, 3) := by decide +kernel
theorem dX9_readLand_179 : decode cX9_readLand 179 = .ok (.iconst 1, 1) := by decide +kernel
theorem dX9_readLand_180 : decode cX9_readLand 180 = .ok (.iadd, 1) := by decide +kernel
theorem dX9_readLand_181 : decode cX9_readLand 181 = .ok (.putfield 89, 3) := by decide +kernel
theorem dX9_readLand_184 : decode cX9_readLand 184 = .ok (.iinc 3 1, 3) := by decide +kernel
theorem dX9_readLand_187 : decode cX9_readLand 187 = .ok (.goto (-56), 3) := by decide +kernel
theorem dX9_readLand_190 : decode cX9_readLand 190 = .ok (.iinc 2 1, 3) := by decide +kernel
theorem dX9_readLand_193 : decode cX9_readLand 193 = .ok (.goto (-94), 3) := by decide +kernel
theorem dX9_readLand_196 : decode cX9_readLand 196 = .ok (.aload_n 0, 1) := by decide +kernel
theorem dX9_readLand_197 : decode cX9_readLand 197 = .ok (.getfield 89, 3) := by decide +kernel
theorem dX9_readLand_200 : decode cX9_readLand 200 = .ok (.iload_n 1, 1) := by decide +kernel
theorem dX9_readLand_201 : decode cX9_readLand 201 = .ok (.if_icmp .ne 7, 3) := by decide +kernel
theorem dX9_readLand_204 : decode cX9_readLand 204 = .ok (.iconst 1, 1) := by decide +kernel
theorem dX9_readLand_205 : decode cX9_readLand 205 = .ok (.goto 4, 3) := by decide +kernel
theorem dX9_readLand_208 : decode cX9_readLand 208 = .ok (.iconst 0, 1) := by decide +kernel
theorem dX9_readLand_209 : decode cX9_readLand 209 = .ok (.ireturn, 1) := by decide +kernel
theorem dX9_tithe_0 : decode cX9_tithe 0 = .ok (.bipush 10, 2) := by decide +kernel
theorem dX9_tithe_2 : decode cX9_tithe 2 = .ok (.aload_n 0, 1) := by decide +kernel
theorem dX9_tithe_3 : decode cX9_tithe 3 = .ok (.getfield 19, 3) := by decide +kernel
