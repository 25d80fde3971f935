theorem dX0_init_0 : decode cX0_init 0 = .ok (.aload_n 0, 1) := by decide +kernel
theorem dX0_init_1 : decode cX0_init 1 = .ok (.invokespecial 3, 3) := by decide +kernel
theorem dX0_init_4 : decode cX0_init 4 = .ok (.aload_n 0, 1) := by decide +kernel
theorem dX0_init_5 : decode cX0_init 5 = .ok (.aload_n 1, 1) := by decide +kernel
theorem dX0_init_6 : decode cX0_init 6 = .ok (.putfield 9, 3) := by decide +kernel
theorem dX0_init_9 : decode cX0_init 9 = .ok (.aload_n 0, 1) := by decide +kernel
theorem dX0_init_10 : decode cX0_init 10 = .ok (.aload_n 2, 1) := by decide +kernel
theorem dX0_init_11 : decode cX0_init 11 = .ok (.putfield 15, 3) := by decide +kernel
theorem dX0_init_14 : decode cX0_init 14 = .ok (.aload_n 0, 1) := by decide +kernel
theorem dX0_init_15 : decode cX0_init 15 = .ok (.sipush 180, 3) := by decide +kernel
theorem dX0_init_18 : decode cX0_init 18 = .ok (.newarray .long, 2) := by decide +kernel
theorem dX0_init_20 : decode cX0_init 20 = .ok (.putfield 19, 3) := by decide +kernel
theorem dX0_init_23 : decode cX0_init 23 = .ok (.aload_n 0, 1) := by decide +kernel
theorem dX0_init_24 : decode cX0_init 24 = .ok (.sipush 180, 3) := by decide +kernel
theorem dX0_init_27 : decode cX0_init 27 = .ok (.newarray .long, 2) := by decide +kernel
theorem dX0_init_29 : decode cX0_init 29 = .ok (.putfield 23, 3) := by decide +kernel
theorem dX0_init_32 : decode cX0_init 32 = .ok (.aload_n 0, 1) := by decide +kernel
theorem dX0_init_33 : decode cX0_init 33 = .ok (.bipush 30, 2) := by decide +kernel
theorem dX0_init_35 : decode cX0_init 35 = .ok (.newarray .long, 2) := by decide +kernel
theorem dX0_init_37 : decode cX0_init 37 = .ok (.putfield 26, 3) := by decide +kernel
theorem dX0_init_40 : decode cX0_init 40 = .ok (.return_, 1) := by decide +kernel
theorem dX0_grainsOfOne_0 : decode cX0_grainsOfOne 0 = .ok (.ldc2_w 29, 3) := by decide +kernel
theorem dX0_grainsOfOne_3 : decode cX0_grainsOfOne 3 = .ok (.iload_n 0, 1) := by decide +kernel
theorem dX0_grainsOfOne_4 : decode cX0_grainsOfOne 4 = .ok (.invokestatic 31, 3) := by decide +kernel
theorem dX0_grainsOfOne_7 : decode cX0_grainsOfOne 7 = .ok (.i2l, 1) := by decide +kernel
theorem dX0_grainsOfOne_8 : decode cX0_grainsOfOne 8 = .ok (.lmul, 1) := by decide +kernel
theorem dX0_grainsOfOne_9 : decode cX0_grainsOfOne 9 = .ok (.lreturn, 1) := by decide +kernel
theorem dX0_strength_0 : decode cX0_strength 0 = .ok (.bipush 10, 2) := by decide +kernel
theorem dX0_strength_2 : decode cX0_strength 2 = .ok (.iload_n 0, 1) := by decide +kernel
theorem dX0_strength_3 : decode cX0_strength 3 = .ok (.bipush 10, 2) := by decide +kernel
theorem dX0_strength_5 : decode cX0_strength 5 = .ok (.irem, 1) := by decide +kernel
theorem dX0_strength_6 : decode cX0_strength 6 = .ok (.iadd, 1) := by decide +kernel
theorem dX0_strength_7 : decode cX0_strength 7 = .ok (.ireturn, 1) := by decide +kernel
theorem dX0_carry_0 : decode cX0_carry 0 = .ok (.iconst 0, 1) := by decide +kernel
theorem dX0_carry_1 : decode cX0_carry 1 = .ok (.istore_n 2, 1) := by decide +kernel
theorem dX0_carry_2 : decode cX0_carry 2 = .ok (.iload_n 2, 1) := by decide +kernel
theorem dX0_carry_3 : decode cX0_carry 3 = .ok (.aload_n 0, 1) := by decide +kernel
theorem dX0_carry_4 : decode cX0_carry 4 = .ok (.getfield 9, 3) := by decide +kernel
theorem dX0_carry_7 : decode cX0_carry 7 = .ok (.getfield 35, 3) := by decide +kernel
theorem dX0_carry_10 : decode cX0_carry 10 = .ok (.if_icmp .ge 43, 3) := by decide +kernel
theorem dX0_carry_13 : decode cX0_carry 13 = .ok (.aload_n 0, 1) := by decide +kernel
theorem dX0_carry_14 : decode cX0_carry 14 = .ok (.getfield 19, 3) := by decide +kernel
theorem dX0_carry_17 : decode cX0_carry 17 = .ok (.iload_n 1, 1) := by decide +kernel
theorem dX0_carry_18 : decode cX0_carry 18 = .ok (.bipush 30, 2) := by decide +kernel
theorem dX0_carry_20 : decode cX0_carry 20 = .ok (.imul, 1) := by decide +kernel
theorem dX0_carry_21 : decode cX0_carry 21 = .ok (.iload_n 2, 1) := by decide +kernel
theorem dX0_carry_22 : decode cX0_carry 22 = .ok (.iadd, 1) := by decide +kernel
theorem dX0_carry_23 : decode cX0_carry 23 = .ok (.aload_n 0, 1) := by decide +kernel
theorem dX0_carry_24 : decode cX0_carry 24 = .ok (.aload_n 0, 1) := by decide +kernel
theorem dX0_carry_25 : decode cX0_carry 25 = .ok (.getfield 15, 3) := by decide +kernel
theorem dX0_carry_28 : decode cX0_carry 28 = .ok (.getfield 41, 3) := by decide +kernel
theorem dX0_carry_31 : decode cX0_carry 31 = .ok (.iload_n 1, 1) := by decide +kernel
theorem dX0_carry_32 : decode cX0_carry 32 = .ok (.iaload, 1) := by decide +kernel
theorem dX0_carry_33 : decode cX0_carry 33 = .ok (.aload_n 0, 1) := by decide +kernel
theorem dX0_carry_34 : decode cX0_carry 34 = .ok (.getfield 15, 3) := by decide +kernel
theorem dX0_carry_37 : decode cX0_carry 37 = .ok (.getfield 47, 3) := by decide +kernel
theorem dX0_carry_40 : decode cX0_carry 40 = .ok (.iload_n 1, 1) := by decide +kernel
theorem dX0_carry_41 : decode cX0_carry 41 = .ok (.iaload, 1) := by decide +kernel
theorem dX0_carry_42 : decode cX0_carry 42 = .ok (.iload_n 2, 1) := by decide +kernel
theorem dX0_carry_43 : decode cX0_carry 43 = .ok (.invokevirtual 50, 3) := by decide +kernel
theorem dX0_carry_46 : decode cX0_carry 46 = .ok (.lastore, 1) := by decide +kernel
theorem dX0_carry_47 : decode cX0_carry 47 = .ok (.iinc 2 1, 3) := by decide +kernel
theorem dX0_carry_50 : decode cX0_carry 50 = .ok (.goto (-48), 3) := by decide +kernel
theorem dX0_carry_53 : decode cX0_carry 53 = .ok (.return_, 1) := by decide +kernel
theorem dX0_carryAll_0 : decode cX0_carryAll 0 = .ok (.iconst 0, 1) := by decide +kernel
theorem dX0_carryAll_1 : decode cX0_carryAll 1 = .ok (.istore_n 1, 1) := by decide +kernel
theorem dX0_carryAll_2 : decode cX0_carryAll 2 = .ok (.iload_n 1, 1) := by decide +kernel
theorem dX0_carryAll_3 : decode cX0_carryAll 3 = .ok (.aload_n 0, 1) := by decide +kernel
theorem dX0_carryAll_4 : decode cX0_carryAll 4 = .ok (.getfield 15, 3) := by decide +kernel
theorem dX0_carryAll_7 : decode cX0_carryAll 7 = .ok (.getfield 54, 3) := by decide +kernel
theorem dX0_carryAll_10 : decode cX0_carryAll 10 = .ok (.if_icmp .ge 14, 3) := by decide +kernel
theorem dX0_carryAll_13 : decode cX0_carryAll 13 = .ok (.aload_n 0, 1) := by decide +kernel
theorem dX0_carryAll_14 : decode cX0_carryAll 14 = .ok (.iload_n 1, 1) := by decide +kernel
theorem dX0_carryAll_15 : decode cX0_carryAll 15 = .ok (.invokevirtual 57, 3) := by decide +kernel
theorem dX0_carryAll_18 : decode cX0_carryAll 18 = .ok (.iinc 1 1, 3) := by decide +kernel
theorem dX0_carryAll_21 : decode cX0_carryAll 21 = .ok (.goto (-19), 3) := by decide +kernel
theorem dX0_carryAll_24 : decode cX0_carryAll 24 = .ok (.return_, 1) := by decide +kernel
theorem dX0_calmUnit_0 : decode cX0_calmUnit 0 = .ok (.aload_n 0, 1) := by decide +kernel
theorem dX0_calmUnit_1 : decode cX0_calmUnit 1 = .ok (.getfield 9, 3) := by decide +kernel
theorem dX0_calmUnit_4 : decode cX0_calmUnit 4 = .ok (.iload_n 2, 1) := by decide +kernel
theorem dX0_calmUnit_5 : decode cX0_calmUnit 5 = .ok (.iload_n 3, 1) := by decide +kernel
theorem dX0_calmUnit_6 : decode cX0_calmUnit 6 = .ok (.invokevirtual 61, 3) := by decide +kernel
theorem dX0_calmUnit_9 : decode cX0_calmUnit 9 = .ok (.istore 4, 2) := by decide +kernel
theorem dX0_calmUnit_11 : decode cX0_calmUnit 11 = .ok (.iload 4, 2) := by decide +kernel
theorem dX0_calmUnit_13 : decode cX0_calmUnit 13 = .ok (.aload_n 0, 1) := by decide +kernel
theorem dX0_calmUnit_14 : decode cX0_calmUnit 14 = .ok (.getfield 9, 3) := by decide +kernel
theorem dX0_calmUnit_17 : decode cX0_calmUnit 17 = .ok (.getfield 65, 3) := by decide +kernel
theorem dX0_calmUnit_20 : decode cX0_calmUnit 20 = .ok (.iand, 1) := by decide +kernel
theorem dX0_calmUnit_21 : decode cX0_calmUnit 21 = .ok (.invokestatic 68, 3) := by decide +kernel
theorem dX0_calmUnit_24 : decode cX0_calmUnit 24 = .ok (.istore 5, 2) := by decide +kernel
theorem dX0_calmUnit_26 : decode cX0_calmUnit 26 = .ok (.iload_n 1, 1) := by decide +kernel
theorem dX0_calmUnit_27 : decode cX0_calmUnit 27 = .ok (.iconst 2, 1) := by decide +kernel
theorem dX0_calmUnit_28 : decode cX0_calmUnit 28 = .ok (.if_icmp .eq 19, 3) := by decide +kernel
theorem dX0_calmUnit_31 : decode cX0_calmUnit 31 = .ok (.iload 5, 2) := by decide +kernel
theorem dX0_calmUnit_33 : decode cX0_calmUnit 33 = .ok (.aload_n 0, 1) := by decide +kernel
theorem dX0_calmUnit_34 : decode cX0_calmUnit 34 = .ok (.getfield 9, 3) := by decide +kernel
theorem dX0_calmUnit_37 : decode cX0_calmUnit 37 = .ok (.iload 4, 2) := by decide +kernel
theorem dX0_calmUnit_39 : decode cX0_calmUnit 39 = .ok (.iload_n 2, 1) := by decide +kernel
theorem dX0_calmUnit_40 : decode cX0_calmUnit 40 = .ok (.iload_n 3, 1) := by decide +kernel
theorem dX0_calmUnit_41 : decode cX0_calmUnit 41 = .ok (.invokevirtual 73, 3) := by decide +kernel
theorem dX0_calmUnit_44 : decode cX0_calmUnit 44 = .ok (.iadd, 1) := by decide +kernel
theorem dX0_calmUnit_45 : decode cX0_calmUnit 45 = .ok (.istore 5, 2) := by decide +kernel
theorem dX0_calmUnit_47 : decode cX0_calmUnit 47 = .ok (.aload_n 0, 1) := by decide +kernel
theorem dX0_calmUnit_48 : decode cX0_calmUnit 48 = .ok (.getfield 9, 3) := by decide +kernel
theorem dX0_calmUnit_51 : decode cX0_calmUnit 51 = .ok (.iload_n 2, 1) := by decide +kernel
theorem dX0_calmUnit_52 : decode cX0_calmUnit 52 = .ok (.iload_n 3, 1) := by decide +kernel
theorem dX0_calmUnit_53 : decode cX0_calmUnit 53 = .ok (.invokevirtual 77, 3) := by decide +kernel
theorem dX0_calmUnit_56 : decode cX0_calmUnit 56 = .ok (.istore 6, 2) := by decide +kernel
theorem dX0_calmUnit_58 : decode cX0_calmUnit 58 = .ok (.iload_n 1, 1) := by decide +kernel
theorem dX0_calmUnit_59 : decode cX0_calmUnit 59 = .ok (.iconst 1, 1) := by decide +kernel
theorem dX0_calmUnit_60 : decode cX0_calmUnit 60 = .ok (.if_icmp .ge 15, 3) := by decide +kernel
theorem dX0_calmUnit_63 : decode cX0_calmUnit 63 = .ok (.ldc2_w 80, 3) := by decide +kernel
theorem dX0_calmUnit_66 : decode cX0_calmUnit 66 = .ok (.iconst 1, 1) := by decide +kernel
theorem dX0_calmUnit_67 : decode cX0_calmUnit 67 = .ok (.iload 6, 2) := by decide +kernel
theorem dX0_calmUnit_69 : decode cX0_calmUnit 69 = .ok (.iadd, 1) := by decide +kernel
theorem dX0_calmUnit_70 : decode cX0_calmUnit 70 = .ok (.i2l, 1) := by decide +kernel
theorem dX0_calmUnit_71 : decode cX0_calmUnit 71 = .ok (.ldiv, 1) := by decide +kernel
theorem dX0_calmUnit_72 : decode cX0_calmUnit 72 = .ok (.goto 16, 3) := by decide +kernel
theorem dX0_calmUnit_75 : decode cX0_calmUnit 75 = .ok (.ldc2_w 80, 3) := by decide +kernel
theorem dX0_calmUnit_78 : decode cX0_calmUnit 78 = .ok (.iconst 2, 1) := by decide +kernel
theorem dX0_calmUnit_79 : decode cX0_calmUnit 79 = .ok (.iload 6, 2) := by decide +kernel
theorem dX0_calmUnit_81 : decode cX0_calmUnit 81 = .ok (.iadd, 1) := by decide +kernel
theorem dX0_calmUnit_82 : decode cX0_calmUnit 82 = .ok (.i2l, 1) := by decide +kernel
theorem dX0_calmUnit_83 : decode cX0_calmUnit 83 = .ok (.ldiv, 1) := by decide +kernel
theorem dX0_calmUnit_84 : decode cX0_calmUnit 84 = .ok (.ldc2_w 82, 3) := by decide +kernel
theorem dX0_calmUnit_87 : decode cX0_calmUnit 87 = .ok (.lmul, 1) := by decide +kernel
theorem dX0_calmUnit_88 : decode cX0_calmUnit 88 = .ok (.lstore 7, 2) := by decide +kernel
theorem dX0_calmUnit_90 : decode cX0_calmUnit 90 = .ok (.lload 7, 2) := by decide +kernel
theorem dX0_calmUnit_92 : decode cX0_calmUnit 92 = .ok (.iload 5, 2) := by decide +kernel
theorem dX0_calmUnit_94 : decode cX0_calmUnit 94 = .ok (.lshr, 1) := by decide +kernel
theorem dX0_calmUnit_95 : decode cX0_calmUnit 95 = .ok (.lreturn, 1) := by decide +kernel
theorem dX0_blown_0 : decode cX0_blown 0 = .ok (.aload_n 0, 1) := by decide +kernel
theorem dX0_blown_1 : decode cX0_blown 1 = .ok (.getfield 9, 3) := by decide +kernel
theorem dX0_blown_4 : decode cX0_blown 4 = .ok (.iload_n 3, 1) := by decide +kernel
theorem dX0_blown_5 : decode cX0_blown 5 = .ok (.iload 4, 2) := by decide +kernel
theorem dX0_blown_7 : decode cX0_blown 7 = .ok (.iload 5, 2) := by decide +kernel
theorem dX0_blown_9 : decode cX0_blown 9 = .ok (.invokevirtual 84, 3) := by decide +kernel
theorem dX0_blown_12 : decode cX0_blown 12 = .ok (.istore 6, 2) := by decide +kernel
theorem dX0_blown_14 : decode cX0_blown 14 = .ok (.iload 5, 2) := by decide +kernel
theorem dX0_blown_16 : decode cX0_blown 16 = .ok (.invokestatic 31, 3) := by decide +kernel
theorem dX0_blown_19 : decode cX0_blown 19 = .ok (.istore 7, 2) := by decide +kernel
theorem dX0_blown_21 : decode cX0_blown 21 = .ok (.iload 6, 2) := by decide +kernel
theorem dX0_blown_23 : decode cX0_blown 23 = .ok (.ifCond .le 13, 3) := by decide +kernel
theorem dX0_blown_26 : decode cX0_blown 26 = .ok (.lload_n 1, 1) := by decide +kernel
theorem dX0_blown_27 : decode cX0_blown 27 = .ok (.iload 7, 2) := by decide +kernel
theorem dX0_blown_29 : decode cX0_blown 29 = .ok (.i2l, 1) := by decide +kernel
theorem dX0_blown_30 : decode cX0_blown 30 = .ok (.lmul, 1) := by decide +kernel
theorem dX0_blown_31 : decode cX0_blown 31 = .ok (.iload 7, 2) := by decide +kernel
theorem dX0_blown_33 : decode cX0_blown 33 = .ok (.i2l, 1) := by decide +kernel
theorem dX0_blown_34 : decode cX0_blown 34 = .ok (.lmul, 1) := by decide +kernel
theorem dX0_blown_35 : decode cX0_blown 35 = .ok (.lreturn, 1) := by decide +kernel
theorem dX0_blown_36 : decode cX0_blown 36 = .ok (.iload 6, 2) := by decide +kernel
theorem dX0_blown_38 : decode cX0_blown 38 = .ok (.ifCond .ge 11, 3) := by decide +kernel
theorem dX0_blown_41 : decode cX0_blown 41 = .ok (.lload_n 1, 1) := by decide +kernel
theorem dX0_blown_42 : decode cX0_blown 42 = .ok (.ldc2_w 87, 3) := by decide +kernel
theorem dX0_blown_45 : decode cX0_blown 45 = .ok (.lmul, 1) := by decide +kernel
theorem dX0_blown_46 : decode cX0_blown 46 = .ok (.goto 12, 3) := by decide +kernel
theorem dX0_blown_49 : decode cX0_blown 49 = .ok (.lload_n 1, 1) := by decide +kernel
theorem dX0_blown_50 : decode cX0_blown 50 = .ok (.ldc2_w 89, 3) := by decide +kernel
theorem dX0_blown_53 : decode cX0_blown 53 = .ok (.lmul, 1) := by decide +kernel
theorem dX0_blown_54 : decode cX0_blown 54 = .ok (.iload 7, 2) := by decide +kernel
theorem dX0_blown_56 : decode cX0_blown 56 = .ok (.i2l, 1) := by decide +kernel
theorem dX0_blown_57 : decode cX0_blown 57 = .ok (.lmul, 1) := by decide +kernel
theorem dX0_blown_58 : decode cX0_blown 58 = .ok (.lreturn, 1) := by decide +kernel
theorem dX0_unitBy_0 : decode cX0_unitBy 0 = .ok (.aload_n 0, 1) := by decide +kernel
theorem dX0_unitBy_1 : decode cX0_unitBy 1 = .ok (.aload_n 0, 1) := by decide +kernel
theorem dX0_unitBy_2 : decode cX0_unitBy 2 = .ok (.getfield 19, 3) := by decide +kernel
theorem dX0_unitBy_5 : decode cX0_unitBy 5 = .ok (.iload_n 1, 1) := by decide +kernel
theorem dX0_unitBy_6 : decode cX0_unitBy 6 = .ok (.bipush 30, 2) := by decide +kernel
theorem dX0_unitBy_8 : decode cX0_unitBy 8 = .ok (.imul, 1) := by decide +kernel
theorem dX0_unitBy_9 : decode cX0_unitBy 9 = .ok (.iload_n 2, 1) := by decide +kernel
theorem dX0_unitBy_10 : decode cX0_unitBy 10 = .ok (.iadd, 1) := by decide +kernel
theorem dX0_unitBy_11 : decode cX0_unitBy 11 = .ok (.laload, 1) := by decide +kernel
theorem dX0_unitBy_12 : decode cX0_unitBy 12 = .ok (.aload_n 0, 1) := by decide +kernel
theorem dX0_unitBy_13 : decode cX0_unitBy 13 = .ok (.getfield 15, 3) := by decide +kernel
theorem dX0_unitBy_16 : decode cX0_unitBy 16 = .ok (.getfield 47, 3) := by decide +kernel
theorem dX0_unitBy_19 : decode cX0_unitBy 19 = .ok (.iload_n 1, 1) := by decide +kernel
theorem dX0_unitBy_20 : decode cX0_unitBy 20 = .ok (.iaload, 1) := by decide +kernel
theorem dX0_unitBy_21 : decode cX0_unitBy 21 = .ok (.iload_n 2, 1) := by decide +kernel
theorem dX0_unitBy_22 : decode cX0_unitBy 22 = .ok (.iload_n 3, 1) := by decide +kernel
theorem dX0_unitBy_23 : decode cX0_unitBy 23 = .ok (.invokevirtual 91, 3) := by decide +kernel
theorem dX0_unitBy_26 : decode cX0_unitBy 26 = .ok (.lreturn, 1) := by decide +kernel
theorem dX0_blow_0 : decode cX0_blow 0 = .ok (.iconst 0, 1) := by decide +kernel
theorem dX0_blow_1 : decode cX0_blow 1 = .ok (.istore_n 2, 1) := by decide +kernel
theorem dX0_blow_2 : decode cX0_blow 2 = .ok (.iload_n 2, 1) := by decide +kernel
theorem dX0_blow_3 : decode cX0_blow 3 = .ok (.aload_n 0, 1) := by decide +kernel
theorem dX0_blow_4 : decode cX0_blow 4 = .ok (.getfield 15, 3) := by decide +kernel
theorem dX0_blow_7 : decode cX0_blow 7 = .ok (.getfield 54, 3) := by decide +kernel
theorem dX0_blow_10 : decode cX0_blow 10 = .ok (.if_icmp .ge 46, 3) := by decide +kernel
theorem dX0_blow_13 : decode cX0_blow 13 = .ok (.iconst 0, 1) := by decide +kernel
theorem dX0_blow_14 : decode cX0_blow 14 = .ok (.istore_n 3, 1) := by decide +kernel
theorem dX0_blow_15 : decode cX0_blow 15 = .ok (.iload_n 3, 1) := by decide +kernel
theorem dX0_blow_16 : decode cX0_blow 16 = .ok (.aload_n 0, 1) := by decide +kernel
theorem dX0_blow_17 : decode cX0_blow 17 = .ok (.getfield 9, 3) := by decide +kernel
theorem dX0_blow_20 : decode cX0_blow 20 = .ok (.getfield 35, 3) := by decide +kernel
theorem dX0_blow_23 : decode cX0_blow 23 = .ok (.if_icmp .ge 27, 3) := by decide +kernel
theorem dX0_blow_26 : decode cX0_blow 26 = .ok (.aload_n 0, 1) := by decide +kernel
theorem dX0_blow_27 : decode cX0_blow 27 = .ok (.getfield 23, 3) := by decide +kernel
theorem dX0_blow_30 : decode cX0_blow 30 = .ok (.iload_n 2, 1) := by decide +kernel
theorem dX0_blow_31 : decode cX0_blow 31 = .ok (.bipush 30, 2) := by decide +kernel
theorem dX0_blow_33 : decode cX0_blow 33 = .ok (.imul, 1) := by decide +kernel
theorem dX0_blow_34 : decode cX0_blow 34 = .ok (.iload_n 3, 1) := by decide +kernel
theorem dX0_blow_35 : decode cX0_blow 35 = .ok (.iadd, 1) := by decide +kernel
theorem dX0_blow_36 : decode cX0_blow 36 = .ok (.aload_n 0, 1) := by decide +kernel
theorem dX0_blow_37 : decode cX0_blow 37 = .ok (.iload_n 2, 1) := by decide +kernel
theorem dX0_blow_38 : decode cX0_blow 38 = .ok (.iload_n 3, 1) := by decide +kernel
theorem dX0_blow_39 : decode cX0_blow 39 = .ok (.iload_n 1, 1) := by decide +kernel
theorem dX0_blow_40 : decode cX0_blow 40 = .ok (.invokevirtual 95, 3) := by decide +kernel
theorem dX0_blow_43 : decode cX0_blow 43 = .ok (.lastore, 1) := by decide +kernel
theorem dX0_blow_44 : decode cX0_blow 44 = .ok (.iinc 3 1, 3) := by decide +kernel
theorem dX0_blow_47 : decode cX0_blow 47 = .ok (.goto (-32), 3) := by decide +kernel
theorem dX0_blow_50 : decode cX0_blow 50 = .ok (.iinc 2 1, 3) := by decide +kernel
theorem dX0_blow_53 : decode cX0_blow 53 = .ok (.goto (-51), 3) := by decide +kernel
theorem dX0_blow_56 : decode cX0_blow 56 = .ok (.aload_n 0, 1) := by decide +kernel
theorem dX0_blow_57 : decode cX0_blow 57 = .ok (.aload_n 0, 1) := by decide +kernel
theorem dX0_blow_58 : decode cX0_blow 58 = .ok (.getfield 98, 3) := by decide +kernel
theorem dX0_blow_61 : decode cX0_blow 61 = .ok (.i2l, 1) := by decide +kernel
theorem dX0_blow_62 : decode cX0_blow 62 = .ok (.ldc2_w 80, 3) := by decide +kernel
theorem dX0_blow_65 : decode cX0_blow 65 = .ok (.lmul, 1) := by decide +kernel
theorem dX0_blow_66 : decode cX0_blow 66 = .ok (.iload_n 1, 1) := by decide +kernel
theorem dX0_blow_67 : decode cX0_blow 67 = .ok (.invokestatic 31, 3) := by decide +kernel
theorem dX0_blow_70 : decode cX0_blow 70 = .ok (.i2l, 1) := by decide +kernel
theorem dX0_blow_71 : decode cX0_blow 71 = .ok (.lmul, 1) := by decide +kernel
theorem dX0_blow_72 : decode cX0_blow 72 = .ok (.putfield 101, 3) := by decide +kernel
theorem dX0_blow_75 : decode cX0_blow 75 = .ok (.return_, 1) := by decide +kernel
theorem dX0_loudness_0 : decode cX0_loudness 0 = .ok (.aload_n 0, 1) := by decide +kernel
theorem dX0_loudness_1 : decode cX0_loudness 1 = .ok (.getfield 15, 3) := by decide +kernel
theorem dX0_loudness_4 : decode cX0_loudness 4 = .ok (.getfield 105, 3) := by decide +kernel
theorem dX0_loudness_7 : decode cX0_loudness 7 = .ok (.iload_n 1, 1) := by decide +kernel
theorem dX0_loudness_8 : decode cX0_loudness 8 = .ok (.iaload, 1) := by decide +kernel
theorem dX0_loudness_9 : decode cX0_loudness 9 = .ok (.i2l, 1) := by decide +kernel
theorem dX0_loudness_10 : decode cX0_loudness 10 = .ok (.aload_n 0, 1) := by decide +kernel
theorem dX0_loudness_11 : decode cX0_loudness 11 = .ok (.getfield 23, 3) := by decide +kernel
theorem dX0_loudness_14 : decode cX0_loudness 14 = .ok (.iload_n 1, 1) := by decide +kernel
theorem dX0_loudness_15 : decode cX0_loudness 15 = .ok (.bipush 30, 2) := by decide +kernel
theorem dX0_loudness_17 : decode cX0_loudness 17 = .ok (.imul, 1) := by decide +kernel
theorem dX0_loudness_18 : decode cX0_loudness 18 = .ok (.iload_n 2, 1) := by decide +kernel
theorem dX0_loudness_19 : decode cX0_loudness 19 = .ok (.iadd, 1) := by decide +kernel
theorem dX0_loudness_20 : decode cX0_loudness 20 = .ok (.laload, 1) := by decide +kernel
theorem dX0_loudness_21 : decode cX0_loudness 21 = .ok (.lmul, 1) := by decide +kernel
theorem dX0_loudness_22 : decode cX0_loudness 22 = .ok (.lreturn, 1) := by decide +kernel
theorem dX0_loudestIn_0 : decode cX0_loudestIn 0 = .ok (.aload_n 0, 1) := by decide +kernel
theorem dX0_loudestIn_1 : decode cX0_loudestIn 1 = .ok (.getfield 101, 3) := by decide +kernel
theorem dX0_loudestIn_4 : decode cX0_loudestIn 4 = .ok (.lstore_n 2, 1) := by decide +kernel
theorem dX0_loudestIn_5 : decode cX0_loudestIn 5 = .ok (.iconst 0, 1) := by decide +kernel
theorem dX0_loudestIn_6 : decode cX0_loudestIn 6 = .ok (.istore 4, 2) := by decide +kernel
theorem dX0_loudestIn_8 : decode cX0_loudestIn 8 = .ok (.iconst 0, 1) := by decide +kernel
theorem dX0_loudestIn_9 : decode cX0_loudestIn 9 = .ok (.istore 5, 2) := by decide +kernel
theorem dX0_loudestIn_11 : decode cX0_loudestIn 11 = .ok (.iload 5, 2) := by decide +kernel
theorem dX0_loudestIn_13 : decode cX0_loudestIn 13 = .ok (.aload_n 0, 1) := by decide +kernel
theorem dX0_loudestIn_14 : decode cX0_loudestIn 14 = .ok (.getfield 15, 3) := by decide +kernel
theorem dX0_loudestIn_17 : decode cX0_loudestIn 17 = .ok (.getfield 54, 3) := by decide +kernel
theorem dX0_loudestIn_20 : decode cX0_loudestIn 20 = .ok (.if_icmp .ge 53, 3) := by decide +kernel
theorem dX0_loudestIn_23 : decode cX0_loudestIn 23 = .ok (.aload_n 0, 1) := by decide +kernel
theorem dX0_loudestIn_24 : decode cX0_loudestIn 24 = .ok (.iload 5, 2) := by decide +kernel
theorem dX0_loudestIn_26 : decode cX0_loudestIn 26 = .ok (.iload_n 1, 1) := by decide +kernel
theorem dX0_loudestIn_27 : decode cX0_loudestIn 27 = .ok (.invokevirtual 108, 3) := by decide +kernel
theorem dX0_loudestIn_30 : decode cX0_loudestIn 30 = .ok (.lstore 6, 2) := by decide +kernel
theorem dX0_loudestIn_32 : decode cX0_loudestIn 32 = .ok (.lload 6, 2) := by decide +kernel
theorem dX0_loudestIn_34 : decode cX0_loudestIn 34 = .ok (.lload_n 2, 1) := by decide +kernel
theorem dX0_loudestIn_35 : decode cX0_loudestIn 35 = .ok (.lcmp, 1) := by decide +kernel
theorem dX0_loudestIn_36 : decode cX0_loudestIn 36 = .ok (.ifCond .le 15, 3) := by decide +kernel
theorem dX0_loudestIn_39 : decode cX0_loudestIn 39 = .ok (.lload 6, 2) := by decide +kernel
theorem dX0_loudestIn_41 : decode cX0_loudestIn 41 = .ok (.lstore_n 2, 1) := by decide +kernel
theorem dX0_loudestIn_42 : decode cX0_loudestIn 42 = .ok (.iconst 1, 1) := by decide +kernel
theorem dX0_loudestIn_43 : decode cX0_loudestIn 43 = .ok (.iload 5, 2) := by decide +kernel
theorem dX0_loudestIn_45 : decode cX0_loudestIn 45 = .ok (.ishl, 1) := by decide +kernel
theorem dX0_loudestIn_46 : decode cX0_loudestIn 46 = .ok (.istore 4, 2) := by decide +kernel
theorem dX0_loudestIn_48 : decode cX0_loudestIn 48 = .ok (.goto 19, 3) := by decide +kernel
theorem dX0_loudestIn_51 : decode cX0_loudestIn 51 = .ok (.lload 6, 2) := by decide +kernel
theorem dX0_loudestIn_53 : decode cX0_loudestIn 53 = .ok (.lload_n 2, 1) := by decide +kernel
theorem dX0_loudestIn_54 : decode cX0_loudestIn 54 = .ok (.lcmp, 1) := by decide +kernel
theorem dX0_loudestIn_55 : decode cX0_loudestIn 55 = .ok (.ifCond .ne 12, 3) := by decide +kernel
theorem dX0_loudestIn_58 : decode cX0_loudestIn 58 = .ok (.iload 4, 2) := by decide +kernel
theorem dX0_loudestIn_60 : decode cX0_loudestIn 60 = .ok (.iconst 1, 1) := by decide +kernel
theorem dX0_loudestIn_61 : decode cX0_loudestIn 61 = .ok (.iload 5, 2) := by decide +kernel
theorem dX0_loudestIn_63 : decode cX0_loudestIn 63 = .ok (.ishl, 1) := by decide +kernel
theorem dX0_loudestIn_64 : decode cX0_loudestIn 64 = .ok (.ior, 1) := by decide +kernel
theorem dX0_loudestIn_65 : decode cX0_loudestIn 65 = .ok (.istore 4, 2) := by decide +kernel
theorem dX0_loudestIn_67 : decode cX0_loudestIn 67 = .ok (.iinc 5 1, 3) := by decide +kernel
theorem dX0_loudestIn_70 : decode cX0_loudestIn 70 = .ok (.goto (-59), 3) := by decide +kernel
theorem dX0_loudestIn_73 : decode cX0_loudestIn 73 = .ok (.iload 4, 2) := by decide +kernel
theorem dX0_loudestIn_75 : decode cX0_loudestIn 75 = .ok (.ireturn, 1) := by decide +kernel
theorem dX0_bar_0 : decode cX0_bar 0 = .ok (.lconst 0, 1) := by decide +kernel
theorem dX0_bar_1 : decode cX0_bar 1 = .ok (.aload_n 0, 1) := by decide +kernel
theorem dX0_bar_2 : decode cX0_bar 2 = .ok (.getfield 101, 3) := by decide +kernel
theorem dX0_bar_5 : decode cX0_bar 5 = .ok (.lconst 1, 1) := by decide +kernel
theorem dX0_bar_6 : decode cX0_bar 6 = .ok (.lsub, 1) := by decide +kernel
theorem dX0_bar_7 : decode cX0_bar 7 = .ok (.invokestatic 112, 3) := by decide +kernel
theorem dX0_bar_10 : decode cX0_bar 10 = .ok (.lstore 5, 2) := by decide +kernel
theorem dX0_bar_12 : decode cX0_bar 12 = .ok (.iconst 0, 1) := by decide +kernel
theorem dX0_bar_13 : decode cX0_bar 13 = .ok (.istore 7, 2) := by decide +kernel
theorem dX0_bar_15 : decode cX0_bar 15 = .ok (.iload 7, 2) := by decide +kernel
theorem dX0_bar_17 : decode cX0_bar 17 = .ok (.aload_n 0, 1) := by decide +kernel
theorem dX0_bar_18 : decode cX0_bar 18 = .ok (.getfield 15, 3) := by decide +kernel
theorem dX0_bar_21 : decode cX0_bar 21 = .ok (.getfield 54, 3) := by decide +kernel
theorem dX0_bar_24 : decode cX0_bar 24 = .ok (.if_icmp .ge 47, 3) := by decide +kernel
theorem dX0_bar_27 : decode cX0_bar 27 = .ok (.iload 7, 2) := by decide +kernel
theorem dX0_bar_29 : decode cX0_bar 29 = .ok (.iload_n 3, 1) := by decide +kernel
theorem dX0_bar_30 : decode cX0_bar 30 = .ok (.if_icmp .eq 35, 3) := by decide +kernel
theorem dX0_bar_33 : decode cX0_bar 33 = .ok (.iload 7, 2) := by decide +kernel
theorem dX0_bar_35 : decode cX0_bar 35 = .ok (.iload 4, 2) := by decide +kernel
theorem dX0_bar_37 : decode cX0_bar 37 = .ok (.if_icmp .eq 28, 3) := by decide +kernel
theorem dX0_bar_40 : decode cX0_bar 40 = .ok (.lload 5, 2) := by decide +kernel
theorem dX0_bar_42 : decode cX0_bar 42 = .ok (.aload_n 1, 1) := by decide +kernel
theorem dX0_bar_43 : decode cX0_bar 43 = .ok (.iload 7, 2) := by decide +kernel
theorem dX0_bar_45 : decode cX0_bar 45 = .ok (.iaload, 1) := by decide +kernel
theorem dX0_bar_46 : decode cX0_bar 46 = .ok (.i2l, 1) := by decide +kernel
theorem dX0_bar_47 : decode cX0_bar 47 = .ok (.aload_n 0, 1) := by decide +kernel
theorem dX0_bar_48 : decode cX0_bar 48 = .ok (.getfield 23, 3) := by decide +kernel
theorem dX0_bar_51 : decode cX0_bar 51 = .ok (.iload 7, 2) := by decide +kernel
theorem dX0_bar_53 : decode cX0_bar 53 = .ok (.bipush 30, 2) := by decide +kernel
theorem dX0_bar_55 : decode cX0_bar 55 = .ok (.imul, 1) := by decide +kernel
theorem dX0_bar_56 : decode cX0_bar 56 = .ok (.iload_n 2, 1) := by decide +kernel
theorem dX0_bar_57 : decode cX0_bar 57 = .ok (.iadd, 1) := by decide +kernel
theorem dX0_bar_58 : decode cX0_bar 58 = .ok (.laload, 1) := by decide +kernel
theorem dX0_bar_59 : decode cX0_bar 59 = .ok (.lmul, 1) := by decide +kernel
theorem dX0_bar_60 : decode cX0_bar 60 = .ok (.invokestatic 112, 3) := by decide +kernel
theorem dX0_bar_63 : decode cX0_bar 63 = .ok (.lstore 5, 2) := by decide +kernel
theorem dX0_bar_65 : decode cX0_bar 65 = .ok (.iinc 7 1, 3) := by decide +kernel
theorem dX0_bar_68 : decode cX0_bar 68 = .ok (.goto (-53), 3) := by decide +kernel
theorem dX0_bar_71 : decode cX0_bar 71 = .ok (.lload 5, 2) := by decide +kernel
theorem dX0_bar_73 : decode cX0_bar 73 = .ok (.lreturn, 1) := by decide +kernel
theorem dX0_leastToOwn_0 : decode cX0_leastToOwn 0 = .ok (.aload_n 0, 1) := by decide +kernel
theorem dX0_leastToOwn_1 : decode cX0_leastToOwn 1 = .ok (.aload_n 0, 1) := by decide +kernel
theorem dX0_leastToOwn_2 : decode cX0_leastToOwn 2 = .ok (.getfield 15, 3) := by decide +kernel
theorem dX0_leastToOwn_5 : decode cX0_leastToOwn 5 = .ok (.getfield 105, 3) := by decide +kernel
theorem dX0_leastToOwn_8 : decode cX0_leastToOwn 8 = .ok (.iload_n 2, 1) := by decide +kernel
theorem dX0_leastToOwn_9 : decode cX0_leastToOwn 9 = .ok (.iload_n 1, 1) := by decide +kernel
theorem dX0_leastToOwn_10 : decode cX0_leastToOwn 10 = .ok (.iload_n 1, 1) := by decide +kernel
theorem dX0_leastToOwn_11 : decode cX0_leastToOwn 11 = .ok (.invokevirtual 118, 3) := by decide +kernel
theorem dX0_leastToOwn_14 : decode cX0_leastToOwn 14 = .ok (.lstore_n 3, 1) := by decide +kernel
theorem dX0_leastToOwn_15 : decode cX0_leastToOwn 15 = .ok (.aload_n 0, 1) := by decide +kernel
theorem dX0_leastToOwn_16 : decode cX0_leastToOwn 16 = .ok (.getfield 23, 3) := by decide +kernel
theorem dX0_leastToOwn_19 : decode cX0_leastToOwn 19 = .ok (.iload_n 1, 1) := by decide +kernel
theorem dX0_leastToOwn_20 : decode cX0_leastToOwn 20 = .ok (.bipush 30, 2) := by decide +kernel
theorem dX0_leastToOwn_22 : decode cX0_leastToOwn 22 = .ok (.imul, 1) := by decide +kernel
theorem dX0_leastToOwn_23 : decode cX0_leastToOwn 23 = .ok (.iload_n 2, 1) := by decide +kernel
theorem dX0_leastToOwn_24 : decode cX0_leastToOwn 24 = .ok (.iadd, 1) := by decide +kernel
theorem dX0_leastToOwn_25 : decode cX0_leastToOwn 25 = .ok (.laload, 1) := by decide +kernel
theorem dX0_leastToOwn_26 : decode cX0_leastToOwn 26 = .ok (.lstore 5, 2) := by decide +kernel
theorem dX0_leastToOwn_28 : decode cX0_leastToOwn 28 = .ok (.iconst 1, 1) := by decide +kernel
theorem dX0_leastToOwn_29 : decode cX0_leastToOwn 29 = .ok (.istore 7, 2) := by decide +kernel
theorem dX0_leastToOwn_31 : decode cX0_leastToOwn 31 = .ok (.iload 7, 2) := by decide +kernel
theorem dX0_leastToOwn_33 : decode cX0_leastToOwn 33 = .ok (.bipush 99, 2) := by decide +kernel
theorem dX0_leastToOwn_35 : decode cX0_leastToOwn 35 = .ok (.if_icmp .gt 23, 3) := by decide +kernel
theorem dX0_leastToOwn_38 : decode cX0_leastToOwn 38 = .ok (.iload 7, 2) := by decide +kernel
theorem dX0_leastToOwn_40 : decode cX0_leastToOwn 40 = .ok (.i2l, 1) := by decide +kernel
theorem dX0_leastToOwn_41 : decode cX0_leastToOwn 41 = .ok (.lload 5, 2) := by decide +kernel
theorem dX0_leastToOwn_43 : decode cX0_leastToOwn 43 = .ok (.lmul, 1) := by decide +kernel
theorem dX0_leastToOwn_44 : decode cX0_leastToOwn 44 = .ok (.lload_n 3, 1) := by decide +kernel
theorem dX0_leastToOwn_45 : decode cX0_leastToOwn 45 = .ok (.lcmp, 1) := by decide +kernel
theorem dX0_leastToOwn_46 : decode cX0_leastToOwn 46 = .ok (.ifCond .le 6, 3) := by decide +kernel
theorem dX0_leastToOwn_49 : decode cX0_leastToOwn 49 = .ok (.iload 7, 2) := by decide +kernel
theorem dX0_leastToOwn_51 : decode cX0_leastToOwn 51 = .ok (.ireturn, 1) := by decide +kernel
theorem dX0_leastToOwn_52 : decode cX0_leastToOwn 52 = .ok (.iinc 7 1, 3) := by decide +kernel
theorem dX0_leastToOwn_55 : decode cX0_leastToOwn 55 = .ok (.goto (-24), 3) := by decide +kernel
theorem dX0_leastToOwn_58 : decode cX0_leastToOwn 58 = .ok (.bipush (-9), 2) := by decide +kernel
theorem dX0_leastToOwn_60 : decode cX0_leastToOwn 60 = .ok (.ireturn, 1) := by decide +kernel
theorem dX1_init_0 : decode cX1_init 0 = .ok (.aload_n 0, 1) := by decide +kernel
theorem dX1_init_1 : decode cX1_init 1 = .ok (.invokespecial 3, 3) := by decide +kernel
theorem dX1_init_4 : decode cX1_init 4 = .ok (.aload_n 0, 1) := by decide +kernel
theorem dX1_init_5 : decode cX1_init 5 = .ok (.bipush 6, 2) := by decide +kernel
theorem dX1_init_7 : decode cX1_init 7 = .ok (.newarray .int, 2) := by decide +kernel
theorem dX1_init_9 : decode cX1_init 9 = .ok (.putfield 9, 3) := by decide +kernel
theorem dX1_init_12 : decode cX1_init 12 = .ok (.aload_n 0, 1) := by decide +kernel
theorem dX1_init_13 : decode cX1_init 13 = .ok (.bipush 6, 2) := by decide +kernel
theorem dX1_init_15 : decode cX1_init 15 = .ok (.newarray .int, 2) := by decide +kernel
theorem dX1_init_17 : decode cX1_init 17 = .ok (.putfield 15, 3) := by decide +kernel
theorem dX1_init_20 : decode cX1_init 20 = .ok (.aload_n 0, 1) := by decide +kernel
theorem dX1_init_21 : decode cX1_init 21 = .ok (.bipush 6, 2) := by decide +kernel
theorem dX1_init_23 : decode cX1_init 23 = .ok (.newarray .int, 2) := by decide +kernel
theorem dX1_init_25 : decode cX1_init 25 = .ok (.putfield 18, 3) := by decide +kernel
theorem dX1_init_28 : decode cX1_init 28 = .ok (.return_, 1) := by decide +kernel
theorem dX1_add_0 : decode cX1_add 0 = .ok (.aload_n 0, 1) := by decide +kernel
theorem dX1_add_1 : decode cX1_add 1 = .ok (.getfield 21, 3) := by decide +kernel
theorem dX1_add_4 : decode cX1_add 4 = .ok (.istore 4, 2) := by decide +kernel
theorem dX1_add_6 : decode cX1_add 6 = .ok (.aload_n 0, 1) := by decide +kernel
theorem dX1_add_7 : decode cX1_add 7 = .ok (.getfield 9, 3) := by decide +kernel
theorem dX1_add_10 : decode cX1_add 10 = .ok (.iload 4, 2) := by decide +kernel
theorem dX1_add_12 : decode cX1_add 12 = .ok (.iload_n 1, 1) := by decide +kernel
theorem dX1_add_13 : decode cX1_add 13 = .ok (.iastore, 1) := by decide +kernel
theorem dX1_add_14 : decode cX1_add 14 = .ok (.aload_n 0, 1) := by decide +kernel
theorem dX1_add_15 : decode cX1_add 15 = .ok (.getfield 15, 3) := by decide +kernel
theorem dX1_add_18 : decode cX1_add 18 = .ok (.iload 4, 2) := by decide +kernel
theorem dX1_add_20 : decode cX1_add 20 = .ok (.iload_n 2, 1) := by decide +kernel
theorem dX1_add_21 : decode cX1_add 21 = .ok (.iastore, 1) := by decide +kernel
theorem dX1_add_22 : decode cX1_add 22 = .ok (.aload_n 0, 1) := by decide +kernel
theorem dX1_add_23 : decode cX1_add 23 = .ok (.getfield 18, 3) := by decide +kernel
theorem dX1_add_26 : decode cX1_add 26 = .ok (.iload 4, 2) := by decide +kernel
theorem dX1_add_28 : decode cX1_add 28 = .ok (.iload_n 3, 1) := by decide +kernel
theorem dX1_add_29 : decode cX1_add 29 = .ok (.iastore, 1) := by decide +kernel
theorem dX1_add_30 : decode cX1_add 30 = .ok (.aload_n 0, 1) := by decide +kernel
theorem dX1_add_31 : decode cX1_add 31 = .ok (.iload 4, 2) := by decide +kernel
theorem dX1_add_33 : decode cX1_add 33 = .ok (.iconst 1, 1) := by decide +kernel
theorem dX1_add_34 : decode cX1_add 34 = .ok (.iadd, 1) := by decide +kernel
theorem dX1_add_35 : decode cX1_add 35 = .ok (.putfield 21, 3) := by decide +kernel
theorem dX1_add_38 : decode cX1_add 38 = .ok (.iload 4, 2) := by decide +kernel
theorem dX1_add_40 : decode cX1_add 40 = .ok (.ireturn, 1) := by decide +kernel
theorem dX2_init_0 : decode cX2_init 0 = .ok (.aload_n 0, 1) := by decide +kernel
theorem dX2_init_1 : decode cX2_init 1 = .ok (.invokespecial 3, 3) := by decide +kernel
theorem dX2_init_4 : decode cX2_init 4 = .ok (.aload_n 0, 1) := by decide +kernel
theorem dX2_init_5 : decode cX2_init 5 = .ok (.aload_n 1, 1) := by decide +kernel
theorem dX2_init_6 : decode cX2_init 6 = .ok (.putfield 9, 3) := by decide +kernel
theorem dX2_init_9 : decode cX2_init 9 = .ok (.aload_n 0, 1) := by decide +kernel
theorem dX2_init_10 : decode cX2_init 10 = .ok (.aload_n 2, 1) := by decide +kernel
theorem dX2_init_11 : decode cX2_init 11 = .ok (.putfield 15, 3) := by decide +kernel
theorem dX2_init_14 : decode cX2_init 14 = .ok (.aload_n 0, 1) := by decide +kernel
theorem dX2_init_15 : decode cX2_init 15 = .ok (.bipush 6, 2) := by decide +kernel
theorem dX2_init_17 : decode cX2_init 17 = .ok (.newarray .int, 2) := by decide +kernel
theorem dX2_init_19 : decode cX2_init 19 = .ok (.putfield 19, 3) := by decide +kernel
theorem dX2_init_22 : decode cX2_init 22 = .ok (.aload_n 0, 1) := by decide +kernel
theorem dX2_init_23 : decode cX2_init 23 = .ok (.sipush 201, 3) := by decide +kernel
theorem dX2_init_26 : decode cX2_init 26 = .ok (.newarray .long, 2) := by decide +kernel
theorem dX2_init_28 : decode cX2_init 28 = .ok (.putfield 23, 3) := by decide +kernel
theorem dX2_init_31 : decode cX2_init 31 = .ok (.return_, 1) := by decide +kernel
theorem dX3_init_0 : decode cX3_init 0 = .ok (.aload_n 0, 1) := by decide +kernel
theorem dX3_init_1 : decode cX3_init 1 = .ok (.invokespecial 3, 3) := by decide +kernel
theorem dX3_init_4 : decode cX3_init 4 = .ok (.aload_n 0, 1) := by decide +kernel
theorem dX3_init_5 : decode cX3_init 5 = .ok (.bipush 30, 2) := by decide +kernel
theorem dX3_init_7 : decode cX3_init 7 = .ok (.newarray .int, 2) := by decide +kernel
theorem dX3_init_9 : decode cX3_init 9 = .ok (.putfield 9, 3) := by decide +kernel
theorem dX3_init_12 : decode cX3_init 12 = .ok (.aload_n 0, 1) := by decide +kernel
theorem dX3_init_13 : decode cX3_init 13 = .ok (.bipush 30, 2) := by decide +kernel
theorem dX3_init_15 : decode cX3_init 15 = .ok (.newarray .int, 2) := by decide +kernel
theorem dX3_init_17 : decode cX3_init 17 = .ok (.putfield 15, 3) := by decide +kernel
theorem dX3_init_20 : decode cX3_init 20 = .ok (.aload_n 0, 1) := by decide +kernel
theorem dX3_init_21 : decode cX3_init 21 = .ok (.bipush 30, 2) := by decide +kernel
theorem dX3_init_23 : decode cX3_init 23 = .ok (.newarray .int, 2) := by decide +kernel
theorem dX3_init_25 : decode cX3_init 25 = .ok (.putfield 18, 3) := by decide +kernel
theorem dX3_init_28 : decode cX3_init 28 = .ok (.aload_n 0, 1) := by decide +kernel
theorem dX3_init_29 : decode cX3_init 29 = .ok (.bipush 10, 2) := by decide +kernel
theorem dX3_init_31 : decode cX3_init 31 = .ok (.newarray .int, 2) := by decide +kernel
theorem dX3_init_33 : decode cX3_init 33 = .ok (.putfield 21, 3) := by decide +kernel
theorem dX3_init_36 : decode cX3_init 36 = .ok (.return_, 1) := by decide +kernel
theorem dX3_firstFault_0 : decode cX3_firstFault 0 = .ok (.iconst 0, 1) := by decide +kernel
theorem dX3_firstFault_1 : decode cX3_firstFault 1 = .ok (.istore 4, 2) := by decide +kernel
theorem dX3_firstFault_3 : decode cX3_firstFault 3 = .ok (.iconst 1, 1) := by decide +kernel
theorem dX3_firstFault_4 : decode cX3_firstFault 4 = .ok (.istore 5, 2) := by decide +kernel
theorem dX3_firstFault_6 : decode cX3_firstFault 6 = .ok (.iconst 0, 1) := by decide +kernel
theorem dX3_firstFault_7 : decode cX3_firstFault 7 = .ok (.istore 6, 2) := by decide +kernel
theorem dX3_firstFault_9 : decode cX3_firstFault 9 = .ok (.iload 6, 2) := by decide +kernel
theorem dX3_firstFault_11 : decode cX3_firstFault 11 = .ok (.iload_n 3, 1) := by decide +kernel
theorem dX3_firstFault_12 : decode cX3_firstFault 12 = .ok (.if_icmp .ge 185, 3) := by decide +kernel
theorem dX3_firstFault_15 : decode cX3_firstFault 15 = .ok (.aload_n 1, 1) := by decide +kernel
theorem dX3_firstFault_16 : decode cX3_firstFault 16 = .ok (.iload_n 2, 1) := by decide +kernel
theorem dX3_firstFault_17 : decode cX3_firstFault 17 = .ok (.iload 6, 2) := by decide +kernel
theorem dX3_firstFault_19 : decode cX3_firstFault 19 = .ok (.iadd, 1) := by decide +kernel
theorem dX3_firstFault_20 : decode cX3_firstFault 20 = .ok (.iaload, 1) := by decide +kernel
theorem dX3_firstFault_21 : decode cX3_firstFault 21 = .ok (.istore 7, 2) := by decide +kernel
theorem dX3_firstFault_23 : decode cX3_firstFault 23 = .ok (.iload 7, 2) := by decide +kernel
theorem dX3_firstFault_25 : decode cX3_firstFault 25 = .ok (.bipush 48, 2) := by decide +kernel
theorem dX3_firstFault_27 : decode cX3_firstFault 27 = .ok (.isub, 1) := by decide +kernel
theorem dX3_firstFault_28 : decode cX3_firstFault 28 = .ok (.istore 8, 2) := by decide +kernel
theorem dX3_firstFault_30 : decode cX3_firstFault 30 = .ok (.iload 6, 2) := by decide +kernel
theorem dX3_firstFault_32 : decode cX3_firstFault 32 = .ok (.ifCond .ne 20, 3) := by decide +kernel
theorem dX3_firstFault_35 : decode cX3_firstFault 35 = .ok (.iload 7, 2) := by decide +kernel
theorem dX3_firstFault_37 : decode cX3_firstFault 37 = .ok (.bipush 103, 2) := by decide +kernel
theorem dX3_firstFault_39 : decode cX3_firstFault 39 = .ok (.if_icmp .ne 7, 3) := by decide +kernel
theorem dX3_firstFault_42 : decode cX3_firstFault 42 = .ok (.iconst 1, 1) := by decide +kernel
theorem dX3_firstFault_43 : decode cX3_firstFault 43 = .ok (.goto 4, 3) := by decide +kernel
theorem dX3_firstFault_46 : decode cX3_firstFault 46 = .ok (.iconst 0, 1) := by decide +kernel
theorem dX3_firstFault_47 : decode cX3_firstFault 47 = .ok (.istore 9, 2) := by decide +kernel
theorem dX3_firstFault_49 : decode cX3_firstFault 49 = .ok (.goto 134, 3) := by decide +kernel
theorem dX3_firstFault_52 : decode cX3_firstFault 52 = .ok (.iload 6, 2) := by decide +kernel
theorem dX3_firstFault_54 : decode cX3_firstFault 54 = .ok (.iconst 1, 1) := by decide +kernel
theorem dX3_firstFault_55 : decode cX3_firstFault 55 = .ok (.if_icmp .ne 29, 3) := by decide +kernel
theorem dX3_firstFault_58 : decode cX3_firstFault 58 = .ok (.iload 8, 2) := by decide +kernel
theorem dX3_firstFault_60 : decode cX3_firstFault 60 = .ok (.iconst 2, 1) := by decide +kernel
theorem dX3_firstFault_61 : decode cX3_firstFault 61 = .ok (.if_icmp .lt 13, 3) := by decide +kernel
theorem dX3_firstFault_64 : decode cX3_firstFault 64 = .ok (.iload 8, 2) := by decide +kernel
theorem dX3_firstFault_66 : decode cX3_firstFault 66 = .ok (.iconst 5, 1) := by decide +kernel
theorem dX3_firstFault_67 : decode cX3_firstFault 67 = .ok (.if_icmp .gt 7, 3) := by decide +kernel
theorem dX3_firstFault_70 : decode cX3_firstFault 70 = .ok (.iconst 1, 1) := by decide +kernel
theorem dX3_firstFault_71 : decode cX3_firstFault 71 = .ok (.goto 4, 3) := by decide +kernel
theorem dX3_firstFault_74 : decode cX3_firstFault 74 = .ok (.iconst 0, 1) := by decide +kernel
theorem dX3_firstFault_75 : decode cX3_firstFault 75 = .ok (.istore 9, 2) := by decide +kernel
theorem dX3_firstFault_77 : decode cX3_firstFault 77 = .ok (.iload 8, 2) := by decide +kernel
theorem dX3_firstFault_79 : decode cX3_firstFault 79 = .ok (.istore 4, 2) := by decide +kernel
theorem dX3_firstFault_81 : decode cX3_firstFault 81 = .ok (.goto 102, 3) := by decide +kernel
theorem dX3_firstFault_84 : decode cX3_firstFault 84 = .ok (.iload 6, 2) := by decide +kernel
theorem dX3_firstFault_86 : decode cX3_firstFault 86 = .ok (.iconst 2, 1) := by decide +kernel
theorem dX3_firstFault_87 : decode cX3_firstFault 87 = .ok (.if_icmp .ne 32, 3) := by decide +kernel
theorem dX3_firstFault_90 : decode cX3_firstFault 90 = .ok (.iload 8, 2) := by decide +kernel
theorem dX3_firstFault_92 : decode cX3_firstFault 92 = .ok (.iconst 2, 1) := by decide +kernel
theorem dX3_firstFault_93 : decode cX3_firstFault 93 = .ok (.if_icmp .lt 14, 3) := by decide +kernel
theorem dX3_firstFault_96 : decode cX3_firstFault 96 = .ok (.iload 8, 2) := by decide +kernel
theorem dX3_firstFault_98 : decode cX3_firstFault 98 = .ok (.bipush 6, 2) := by decide +kernel
theorem dX3_firstFault_100 : decode cX3_firstFault 100 = .ok (.if_icmp .gt 7, 3) := by decide +kernel
theorem dX3_firstFault_103 : decode cX3_firstFault 103 = .ok (.iconst 1, 1) := by decide +kernel
theorem dX3_firstFault_104 : decode cX3_firstFault 104 = .ok (.goto 4, 3) := by decide +kernel
theorem dX3_firstFault_107 : decode cX3_firstFault 107 = .ok (.iconst 0, 1) := by decide +kernel
theorem dX3_firstFault_108 : decode cX3_firstFault 108 = .ok (.istore 9, 2) := by decide +kernel
theorem dX3_firstFault_110 : decode cX3_firstFault 110 = .ok (.iconst 1, 1) := by decide +kernel
theorem dX3_firstFault_111 : decode cX3_firstFault 111 = .ok (.iload 8, 2) := by decide +kernel
theorem dX3_firstFault_113 : decode cX3_firstFault 113 = .ok (.iadd, 1) := by decide +kernel
theorem dX3_firstFault_114 : decode cX3_firstFault 114 = .ok (.istore 5, 2) := by decide +kernel
theorem dX3_firstFault_116 : decode cX3_firstFault 116 = .ok (.goto 67, 3) := by decide +kernel
theorem dX3_firstFault_119 : decode cX3_firstFault 119 = .ok (.iload 6, 2) := by decide +kernel
theorem dX3_firstFault_121 : decode cX3_firstFault 121 = .ok (.iconst 3, 1) := by decide +kernel
theorem dX3_firstFault_122 : decode cX3_firstFault 122 = .ok (.iload 4, 2) := by decide +kernel
theorem dX3_firstFault_124 : decode cX3_firstFault 124 = .ok (.iload 5, 2) := by decide +kernel
theorem dX3_firstFault_126 : decode cX3_firstFault 126 = .ok (.imul, 1) := by decide +kernel
theorem dX3_firstFault_127 : decode cX3_firstFault 127 = .ok (.iadd, 1) := by decide +kernel
theorem dX3_firstFault_128 : decode cX3_firstFault 128 = .ok (.if_icmp .lt 9, 3) := by decide +kernel
theorem dX3_firstFault_131 : decode cX3_firstFault 131 = .ok (.iconst 0, 1) := by decide +kernel
theorem dX3_firstFault_132 : decode cX3_firstFault 132 = .ok (.istore 9, 2) := by decide +kernel
theorem dX3_firstFault_134 : decode cX3_firstFault 134 = .ok (.goto 49, 3) := by decide +kernel
theorem dX3_firstFault_137 : decode cX3_firstFault 137 = .ok (.iload 6, 2) := by decide +kernel
theorem dX3_firstFault_139 : decode cX3_firstFault 139 = .ok (.iconst 3, 1) := by decide +kernel
theorem dX3_firstFault_140 : decode cX3_firstFault 140 = .ok (.isub, 1) := by decide +kernel
theorem dX3_firstFault_141 : decode cX3_firstFault 141 = .ok (.iload 5, 2) := by decide +kernel
theorem dX3_firstFault_143 : decode cX3_firstFault 143 = .ok (.irem, 1) := by decide +kernel
theorem dX3_firstFault_144 : decode cX3_firstFault 144 = .ok (.ifCond .ne 20, 3) := by decide +kernel
theorem dX3_firstFault_147 : decode cX3_firstFault 147 = .ok (.iload 7, 2) := by decide +kernel
theorem dX3_firstFault_149 : decode cX3_firstFault 149 = .ok (.bipush 59, 2) := by decide +kernel
theorem dX3_firstFault_151 : decode cX3_firstFault 151 = .ok (.if_icmp .ne 7, 3) := by decide +kernel
theorem dX3_firstFault_154 : decode cX3_firstFault 154 = .ok (.iconst 1, 1) := by decide +kernel
theorem dX3_firstFault_155 : decode cX3_firstFault 155 = .ok (.goto 4, 3) := by decide +kernel
theorem dX3_firstFault_158 : decode cX3_firstFault 158 = .ok (.iconst 0, 1) := by decide +kernel
theorem dX3_firstFault_159 : decode cX3_firstFault 159 = .ok (.istore 9, 2) := by decide +kernel
theorem dX3_firstFault_161 : decode cX3_firstFault 161 = .ok (.goto 22, 3) := by decide +kernel
theorem dX3_firstFault_164 : decode cX3_firstFault 164 = .ok (.iload 8, 2) := by decide +kernel
theorem dX3_firstFault_166 : decode cX3_firstFault 166 = .ok (.ifCond .lt 14, 3) := by decide +kernel
theorem dX3_firstFault_169 : decode cX3_firstFault 169 = .ok (.iload 8, 2) := by decide +kernel
theorem dX3_firstFault_171 : decode cX3_firstFault 171 = .ok (.bipush 9, 2) := by decide +kernel
theorem dX3_firstFault_173 : decode cX3_firstFault 173 = .ok (.if_icmp .gt 7, 3) := by decide +kernel
theorem dX3_firstFault_176 : decode cX3_firstFault 176 = .ok (.iconst 1, 1) := by decide +kernel
theorem dX3_firstFault_177 : decode cX3_firstFault 177 = .ok (.goto 4, 3) := by decide +kernel
theorem dX3_firstFault_180 : decode cX3_firstFault 180 = .ok (.iconst 0, 1) := by decide +kernel
theorem dX3_firstFault_181 : decode cX3_firstFault 181 = .ok (.istore 9, 2) := by decide +kernel
theorem dX3_firstFault_183 : decode cX3_firstFault 183 = .ok (.iload 9, 2) := by decide +kernel
theorem dX3_firstFault_185 : decode cX3_firstFault 185 = .ok (.ifCond .ne 6, 3) := by decide +kernel
theorem dX3_firstFault_188 : decode cX3_firstFault 188 = .ok (.iload 6, 2) := by decide +kernel
theorem dX3_firstFault_190 : decode cX3_firstFault 190 = .ok (.ireturn, 1) := by decide +kernel
theorem dX3_firstFault_191 : decode cX3_firstFault 191 = .ok (.iinc 6 1, 3) := by decide +kernel
theorem dX3_firstFault_194 : decode cX3_firstFault 194 = .ok (.goto (-185), 3) := by decide +kernel
theorem dX3_firstFault_197 : decode cX3_firstFault 197 = .ok (.iload_n 3, 1) := by decide +kernel
theorem dX3_firstFault_198 : decode cX3_firstFault 198 = .ok (.iconst 2, 1) := by decide +kernel
theorem dX3_firstFault_199 : decode cX3_firstFault 199 = .ok (.if_icmp .le 19, 3) := by decide +kernel
theorem dX3_firstFault_202 : decode cX3_firstFault 202 = .ok (.iload_n 3, 1) := by decide +kernel
theorem dX3_firstFault_203 : decode cX3_firstFault 203 = .ok (.iconst 3, 1) := by decide +kernel
theorem dX3_firstFault_204 : decode cX3_firstFault 204 = .ok (.iload 4, 2) := by decide +kernel
theorem dX3_firstFault_206 : decode cX3_firstFault 206 = .ok (.iload 5, 2) := by decide +kernel
theorem dX3_firstFault_208 : decode cX3_firstFault 208 = .ok (.imul, 1) := by decide +kernel
theorem dX3_firstFault_209 : decode cX3_firstFault 209 = .ok (.iadd, 1) := by decide +kernel
theorem dX3_firstFault_210 : decode cX3_firstFault 210 = .ok (.if_icmp .ne 8, 3) := by decide +kernel
theorem dX3_firstFault_213 : decode cX3_firstFault 213 = .ok (.bipush (-9), 2) := by decide +kernel
theorem dX3_firstFault_215 : decode cX3_firstFault 215 = .ok (.goto 4, 3) := by decide +kernel
theorem dX3_firstFault_218 : decode cX3_firstFault 218 = .ok (.iload_n 3, 1) := by decide +kernel
theorem dX3_firstFault_219 : decode cX3_firstFault 219 = .ok (.ireturn, 1) := by decide +kernel
theorem dX3_take_0 : decode cX3_take 0 = .ok (.aload_n 0, 1) := by decide +kernel
theorem dX3_take_1 : decode cX3_take 1 = .ok (.aload_n 1, 1) := by decide +kernel
theorem dX3_take_2 : decode cX3_take 2 = .ok (.iload_n 2, 1) := by decide +kernel
theorem dX3_take_3 : decode cX3_take 3 = .ok (.iconst 1, 1) := by decide +kernel
theorem dX3_take_4 : decode cX3_take 4 = .ok (.iadd, 1) := by decide +kernel
theorem dX3_take_5 : decode cX3_take 5 = .ok (.iaload, 1) := by decide +kernel
theorem dX3_take_6 : decode cX3_take 6 = .ok (.bipush 48, 2) := by decide +kernel
theorem dX3_take_8 : decode cX3_take 8 = .ok (.isub, 1) := by decide +kernel
theorem dX3_take_9 : decode cX3_take 9 = .ok (.putfield 24, 3) := by decide +kernel
theorem dX3_take_12 : decode cX3_take 12 = .ok (.aload_n 0, 1) := by decide +kernel
theorem dX3_take_13 : decode cX3_take 13 = .ok (.aload_n 1, 1) := by decide +kernel
theorem dX3_take_14 : decode cX3_take 14 = .ok (.iload_n 2, 1) := by decide +kernel
theorem dX3_take_15 : decode cX3_take 15 = .ok (.iconst 2, 1) := by decide +kernel
theorem dX3_take_16 : decode cX3_take 16 = .ok (.iadd, 1) := by decide +kernel
theorem dX3_take_17 : decode cX3_take 17 = .ok (.iaload, 1) := by decide +kernel
theorem dX3_take_18 : decode cX3_take 18 = .ok (.bipush 48, 2) := by decide +kernel
theorem dX3_take_20 : decode cX3_take 20 = .ok (.isub, 1) := by decide +kernel
theorem dX3_take_21 : decode cX3_take 21 = .ok (.putfield 28, 3) := by decide +kernel
theorem dX3_take_24 : decode cX3_take 24 = .ok (.aload_n 0, 1) := by decide +kernel
theorem dX3_take_25 : decode cX3_take 25 = .ok (.aload_n 0, 1) := by decide +kernel
theorem dX3_take_26 : decode cX3_take 26 = .ok (.getfield 24, 3) := by decide +kernel
theorem dX3_take_29 : decode cX3_take 29 = .ok (.aload_n 0, 1) := by decide +kernel
theorem dX3_take_30 : decode cX3_take 30 = .ok (.getfield 28, 3) := by decide +kernel
theorem dX3_take_33 : decode cX3_take 33 = .ok (.imul, 1) := by decide +kernel
theorem dX3_take_34 : decode cX3_take 34 = .ok (.putfield 31, 3) := by decide +kernel
theorem dX3_take_37 : decode cX3_take 37 = .ok (.aload_n 0, 1) := by decide +kernel
theorem dX3_take_38 : decode cX3_take 38 = .ok (.iconst 0, 1) := by decide +kernel
theorem dX3_take_39 : decode cX3_take 39 = .ok (.putfield 34, 3) := by decide +kernel
theorem dX3_take_42 : decode cX3_take 42 = .ok (.aload_n 0, 1) := by decide +kernel
theorem dX3_take_43 : decode cX3_take 43 = .ok (.getfield 21, 3) := by decide +kernel
theorem dX3_take_46 : decode cX3_take 46 = .ok (.iconst 0, 1) := by decide +kernel
theorem dX3_take_47 : decode cX3_take 47 = .ok (.invokestatic 37, 3) := by decide +kernel
theorem dX3_take_50 : decode cX3_take 50 = .ok (.iconst 0, 1) := by decide +kernel
theorem dX3_take_51 : decode cX3_take 51 = .ok (.istore_n 3, 1) := by decide +kernel
theorem dX3_take_52 : decode cX3_take 52 = .ok (.iload_n 3, 1) := by decide +kernel
theorem dX3_take_53 : decode cX3_take 53 = .ok (.aload_n 0, 1) := by decide +kernel
theorem dX3_take_54 : decode cX3_take 54 = .ok (.getfield 24, 3) := by decide +kernel
theorem dX3_take_57 : decode cX3_take 57 = .ok (.if_icmp .ge 117, 3) := by decide +kernel
theorem dX3_take_60 : decode cX3_take 60 = .ok (.iconst 0, 1) := by decide +kernel
theorem dX3_take_61 : decode cX3_take 61 = .ok (.istore 4, 2) := by decide +kernel
theorem dX3_take_63 : decode cX3_take 63 = .ok (.iload 4, 2) := by decide +kernel
theorem dX3_take_65 : decode cX3_take 65 = .ok (.aload_n 0, 1) := by decide +kernel
theorem dX3_take_66 : decode cX3_take 66 = .ok (.getfield 28, 3) := by decide +kernel
theorem dX3_take_69 : decode cX3_take 69 = .ok (.if_icmp .ge 99, 3) := by decide +kernel
theorem dX3_take_72 : decode cX3_take 72 = .ok (.iload_n 3, 1) := by decide +kernel
theorem dX3_take_73 : decode cX3_take 73 = .ok (.aload_n 0, 1) := by decide +kernel
theorem dX3_take_74 : decode cX3_take 74 = .ok (.getfield 28, 3) := by decide +kernel
theorem dX3_take_77 : decode cX3_take 77 = .ok (.imul, 1) := by decide +kernel
theorem dX3_take_78 : decode cX3_take 78 = .ok (.iload 4, 2) := by decide +kernel
theorem dX3_take_80 : decode cX3_take 80 = .ok (.iadd, 1) := by decide +kernel
theorem dX3_take_81 : decode cX3_take 81 = .ok (.istore 5, 2) := by decide +kernel
theorem dX3_take_83 : decode cX3_take 83 = .ok (.aload_n 0, 1) := by decide +kernel
theorem dX3_take_84 : decode cX3_take 84 = .ok (.getfield 15, 3) := by decide +kernel
theorem dX3_take_87 : decode cX3_take 87 = .ok (.iload 5, 2) := by decide +kernel
theorem dX3_take_89 : decode cX3_take 89 = .ok (.iload_n 3, 1) := by decide +kernel
theorem dX3_take_90 : decode cX3_take 90 = .ok (.iastore, 1) := by decide +kernel
theorem dX3_take_91 : decode cX3_take 91 = .ok (.aload_n 0, 1) := by decide +kernel
theorem dX3_take_92 : decode cX3_take 92 = .ok (.getfield 18, 3) := by decide +kernel
theorem dX3_take_95 : decode cX3_take 95 = .ok (.iload 5, 2) := by decide +kernel
theorem dX3_take_97 : decode cX3_take 97 = .ok (.iload 4, 2) := by decide +kernel
theorem dX3_take_99 : decode cX3_take 99 = .ok (.iastore, 1) := by decide +kernel
theorem dX3_take_100 : decode cX3_take 100 = .ok (.aload_n 0, 1) := by decide +kernel
theorem dX3_take_101 : decode cX3_take 101 = .ok (.getfield 9, 3) := by decide +kernel
theorem dX3_take_104 : decode cX3_take 104 = .ok (.iload 5, 2) := by decide +kernel
theorem dX3_take_106 : decode cX3_take 106 = .ok (.aload_n 1, 1) := by decide +kernel
theorem dX3_take_107 : decode cX3_take 107 = .ok (.iload_n 2, 1) := by decide +kernel
theorem dX3_take_108 : decode cX3_take 108 = .ok (.iconst 4, 1) := by decide +kernel
theorem dX3_take_109 : decode cX3_take 109 = .ok (.iadd, 1) := by decide +kernel
theorem dX3_take_110 : decode cX3_take 110 = .ok (.iload_n 3, 1) := by decide +kernel
theorem dX3_take_111 : decode cX3_take 111 = .ok (.aload_n 0, 1) := by decide +kernel
theorem dX3_take_112 : decode cX3_take 112 = .ok (.getfield 28, 3) := by decide +kernel
theorem dX3_take_115 : decode cX3_take 115 = .ok (.iconst 1, 1) := by decide +kernel
theorem dX3_take_116 : decode cX3_take 116 = .ok (.iadd, 1) := by decide +kernel
theorem dX3_take_117 : decode cX3_take 117 = .ok (.imul, 1) := by decide +kernel
theorem dX3_take_118 : decode cX3_take 118 = .ok (.iadd, 1) := by decide +kernel
theorem dX3_take_119 : decode cX3_take 119 = .ok (.iload 4, 2) := by decide +kernel
theorem dX3_take_121 : decode cX3_take 121 = .ok (.iadd, 1) := by decide +kernel
theorem dX3_take_122 : decode cX3_take 122 = .ok (.iaload, 1) := by decide +kernel
theorem dX3_take_123 : decode cX3_take 123 = .ok (.bipush 48, 2) := by decide +kernel
theorem dX3_take_125 : decode cX3_take 125 = .ok (.isub, 1) := by decide +kernel
theorem dX3_take_126 : decode cX3_take 126 = .ok (.iastore, 1) := by decide +kernel
theorem dX3_take_127 : decode cX3_take 127 = .ok (.iconst 0, 1) := by decide +kernel
theorem dX3_take_128 : decode cX3_take 128 = .ok (.istore 6, 2) := by decide +kernel
theorem dX3_take_130 : decode cX3_take 130 = .ok (.iload 6, 2) := by decide +kernel
theorem dX3_take_132 : decode cX3_take 132 = .ok (.aload_n 0, 1) := by decide +kernel
theorem dX3_take_133 : decode cX3_take 133 = .ok (.getfield 9, 3) := by decide +kernel
theorem dX3_take_136 : decode cX3_take 136 = .ok (.iload 5, 2) := by decide +kernel
theorem dX3_take_138 : decode cX3_take 138 = .ok (.iaload, 1) := by decide +kernel
theorem dX3_take_139 : decode cX3_take 139 = .ok (.if_icmp .ge 23, 3) := by decide +kernel
theorem dX3_take_142 : decode cX3_take 142 = .ok (.aload_n 0, 1) := by decide +kernel
theorem dX3_take_143 : decode cX3_take 143 = .ok (.getfield 21, 3) := by decide +kernel
theorem dX3_take_146 : decode cX3_take 146 = .ok (.iload 6, 2) := by decide +kernel
theorem dX3_take_148 : decode cX3_take 148 = .ok (.dup2, 1) := by decide +kernel
theorem dX3_take_149 : decode cX3_take 149 = .ok (.iaload, 1) := by decide +kernel
theorem dX3_take_150 : decode cX3_take 150 = .ok (.iconst 1, 1) := by decide +kernel
theorem dX3_take_151 : decode cX3_take 151 = .ok (.iload 5, 2) := by decide +kernel
theorem dX3_take_153 : decode cX3_take 153 = .ok (.ishl, 1) := by decide +kernel
theorem dX3_take_154 : decode cX3_take 154 = .ok (.ior, 1) := by decide +kernel
theorem dX3_take_155 : decode cX3_take 155 = .ok (.iastore, 1) := by decide +kernel
theorem dX3_take_156 : decode cX3_take 156 = .ok (.iinc 6 1, 3) := by decide +kernel
theorem dX3_take_159 : decode cX3_take 159 = .ok (.goto (-29), 3) := by decide +kernel
theorem dX3_take_162 : decode cX3_take 162 = .ok (.iinc 4 1, 3) := by decide +kernel
theorem dX3_take_165 : decode cX3_take 165 = .ok (.goto (-102), 3) := by decide +kernel
theorem dX3_take_168 : decode cX3_take 168 = .ok (.iinc 3 1, 3) := by decide +kernel
theorem dX3_take_171 : decode cX3_take 171 = .ok (.goto (-119), 3) := by decide +kernel
theorem dX3_take_174 : decode cX3_take 174 = .ok (.return_, 1) := by decide +kernel
theorem dX3_isPlanted_0 : decode cX3_isPlanted 0 = .ok (.aload_n 0, 1) := by decide +kernel
theorem dX3_isPlanted_1 : decode cX3_isPlanted 1 = .ok (.getfield 34, 3) := by decide +kernel
theorem dX3_isPlanted_4 : decode cX3_isPlanted 4 = .ok (.iload_n 1, 1) := by decide +kernel
theorem dX3_isPlanted_5 : decode cX3_isPlanted 5 = .ok (.ishr, 1) := by decide +kernel
theorem dX3_isPlanted_6 : decode cX3_isPlanted 6 = .ok (.iconst 1, 1) := by decide +kernel
theorem dX3_isPlanted_7 : decode cX3_isPlanted 7 = .ok (.iand, 1) := by decide +kernel
theorem dX3_isPlanted_8 : decode cX3_isPlanted 8 = .ok (.iconst 1, 1) := by decide +kernel
theorem dX3_isPlanted_9 : decode cX3_isPlanted 9 = .ok (.if_icmp .ne 7, 3) := by decide +kernel
theorem dX3_isPlanted_12 : decode cX3_isPlanted 12 = .ok (.iconst 1, 1) := by decide +kernel
theorem dX3_isPlanted_13 : decode cX3_isPlanted 13 = .ok (.goto 4, 3) := by decide +kernel
theorem dX3_isPlanted_16 : decode cX3_isPlanted 16 = .ok (.iconst 0, 1) := by decide +kernel
theorem dX3_isPlanted_17 : decode cX3_isPlanted 17 = .ok (.ireturn, 1) := by decide +kernel
theorem dX3_titheOf_0 : decode cX3_titheOf 0 = .ok (.bipush 10, 2) := by decide +kernel
theorem dX3_titheOf_2 : decode cX3_titheOf 2 = .ok (.aload_n 0, 1) := by decide +kernel
theorem dX3_titheOf_3 : decode cX3_titheOf 3 = .ok (.getfield 9, 3) := by decide +kernel
theorem dX3_titheOf_6 : decode cX3_titheOf 6 = .ok (.iload_n 1, 1) := by decide +kernel
theorem dX3_titheOf_7 : decode cX3_titheOf 7 = .ok (.iaload, 1) := by decide +kernel
theorem dX3_titheOf_8 : decode cX3_titheOf 8 = .ok (.isub, 1) := by decide +kernel
theorem dX3_titheOf_9 : decode cX3_titheOf 9 = .ok (.ireturn, 1) := by decide +kernel
theorem dX3_apart_0 : decode cX3_apart 0 = .ok (.aload_n 0, 1) := by decide +kernel
theorem dX3_apart_1 : decode cX3_apart 1 = .ok (.getfield 15, 3) := by decide +kernel
theorem dX3_apart_4 : decode cX3_apart 4 = .ok (.iload_n 2, 1) := by decide +kernel
theorem dX3_apart_5 : decode cX3_apart 5 = .ok (.iaload, 1) := by decide +kernel
theorem dX3_apart_6 : decode cX3_apart 6 = .ok (.aload_n 0, 1) := by decide +kernel
theorem dX3_apart_7 : decode cX3_apart 7 = .ok (.getfield 15, 3) := by decide +kernel
theorem dX3_apart_10 : decode cX3_apart 10 = .ok (.iload_n 1, 1) := by decide +kernel
theorem dX3_apart_11 : decode cX3_apart 11 = .ok (.iaload, 1) := by decide +kernel
theorem dX3_apart_12 : decode cX3_apart 12 = .ok (.isub, 1) := by decide +kernel
theorem dX3_apart_13 : decode cX3_apart 13 = .ok (.istore_n 3, 1) := by decide +kernel
theorem dX3_apart_14 : decode cX3_apart 14 = .ok (.aload_n 0, 1) := by decide +kernel
theorem dX3_apart_15 : decode cX3_apart 15 = .ok (.getfield 18, 3) := by decide +kernel
theorem dX3_apart_18 : decode cX3_apart 18 = .ok (.iload_n 2, 1) := by decide +kernel
theorem dX3_apart_19 : decode cX3_apart 19 = .ok (.iaload, 1) := by decide +kernel
theorem dX3_apart_20 : decode cX3_apart 20 = .ok (.aload_n 0, 1) := by decide +kernel
theorem dX3_apart_21 : decode cX3_apart 21 = .ok (.getfield 18, 3) := by decide +kernel
theorem dX3_apart_24 : decode cX3_apart 24 = .ok (.iload_n 1, 1) := by decide +kernel
theorem dX3_apart_25 : decode cX3_apart 25 = .ok (.iaload, 1) := by decide +kernel
theorem dX3_apart_26 : decode cX3_apart 26 = .ok (.isub, 1) := by decide +kernel
theorem dX3_apart_27 : decode cX3_apart 27 = .ok (.istore 4, 2) := by decide +kernel
theorem dX3_apart_29 : decode cX3_apart 29 = .ok (.iload_n 3, 1) := by decide +kernel
theorem dX3_apart_30 : decode cX3_apart 30 = .ok (.iload_n 3, 1) := by decide +kernel
theorem dX3_apart_31 : decode cX3_apart 31 = .ok (.imul, 1) := by decide +kernel
theorem dX3_apart_32 : decode cX3_apart 32 = .ok (.iload 4, 2) := by decide +kernel
theorem dX3_apart_34 : decode cX3_apart 34 = .ok (.iload 4, 2) := by decide +kernel
theorem dX3_apart_36 : decode cX3_apart 36 = .ok (.imul, 1) := by decide +kernel
theorem dX3_apart_37 : decode cX3_apart 37 = .ok (.iadd, 1) := by decide +kernel
theorem dX3_apart_38 : decode cX3_apart 38 = .ok (.ireturn, 1) := by decide +kernel
theorem dX3_between_0 : decode cX3_between 0 = .ok (.aload_n 0, 1) := by decide +kernel
theorem dX3_between_1 : decode cX3_between 1 = .ok (.getfield 15, 3) := by decide +kernel
theorem dX3_between_4 : decode cX3_between 4 = .ok (.iload_n 2, 1) := by decide +kernel
theorem dX3_between_5 : decode cX3_between 5 = .ok (.iaload, 1) := by decide +kernel
theorem dX3_between_6 : decode cX3_between 6 = .ok (.aload_n 0, 1) := by decide +kernel
theorem dX3_between_7 : decode cX3_between 7 = .ok (.getfield 15, 3) := by decide +kernel
theorem dX3_between_10 : decode cX3_between 10 = .ok (.iload_n 1, 1) := by decide +kernel
theorem dX3_between_11 : decode cX3_between 11 = .ok (.iaload, 1) := by decide +kernel
theorem dX3_between_12 : decode cX3_between 12 = .ok (.isub, 1) := by decide +kernel
theorem dX3_between_13 : decode cX3_between 13 = .ok (.istore_n 3, 1) := by decide +kernel
theorem dX3_between_14 : decode cX3_between 14 = .ok (.aload_n 0, 1) := by decide +kernel
theorem dX3_between_15 : decode cX3_between 15 = .ok (.getfield 18, 3) := by decide +kernel
theorem dX3_between_18 : decode cX3_between 18 = .ok (.iload_n 2, 1) := by decide +kernel
theorem dX3_between_19 : decode cX3_between 19 = .ok (.iaload, 1) := by decide +kernel
theorem dX3_between_20 : decode cX3_between 20 = .ok (.aload_n 0, 1) := by decide +kernel
theorem dX3_between_21 : decode cX3_between 21 = .ok (.getfield 18, 3) := by decide +kernel
theorem dX3_between_24 : decode cX3_between 24 = .ok (.iload_n 1, 1) := by decide +kernel
theorem dX3_between_25 : decode cX3_between 25 = .ok (.iaload, 1) := by decide +kernel
theorem dX3_between_26 : decode cX3_between 26 = .ok (.isub, 1) := by decide +kernel
theorem dX3_between_27 : decode cX3_between 27 = .ok (.istore 4, 2) := by decide +kernel
theorem dX3_between_29 : decode cX3_between 29 = .ok (.iload_n 3, 1) := by decide +kernel
theorem dX3_between_30 : decode cX3_between 30 = .ok (.invokestatic 47, 3) := by decide +kernel
theorem dX3_between_33 : decode cX3_between 33 = .ok (.iload 4, 2) := by decide +kernel
theorem dX3_between_35 : decode cX3_between 35 = .ok (.invokestatic 47, 3) := by decide +kernel
theorem dX3_between_38 : decode cX3_between 38 = .ok (.invokestatic 52, 3) := by decide +kernel
theorem dX3_between_41 : decode cX3_between 41 = .ok (.istore 5, 2) := by decide +kernel
theorem dX3_between_43 : decode cX3_between 43 = .ok (.iconst 0, 1) := by decide +kernel
theorem dX3_between_44 : decode cX3_between 44 = .ok (.istore 6, 2) := by decide +kernel
theorem dX3_between_46 : decode cX3_between 46 = .ok (.iconst 1, 1) := by decide +kernel
theorem dX3_between_47 : decode cX3_between 47 = .ok (.istore 7, 2) := by decide +kernel
theorem dX3_between_49 : decode cX3_between 49 = .ok (.iload 7, 2) := by decide +kernel
theorem dX3_between_51 : decode cX3_between 51 = .ok (.iload 5, 2) := by decide +kernel
theorem dX3_between_53 : decode cX3_between 53 = .ok (.if_icmp .ge 61, 3) := by decide +kernel
theorem dX3_between_56 : decode cX3_between 56 = .ok (.aload_n 0, 1) := by decide +kernel
theorem dX3_between_57 : decode cX3_between 57 = .ok (.getfield 15, 3) := by decide +kernel
theorem dX3_between_60 : decode cX3_between 60 = .ok (.iload_n 1, 1) := by decide +kernel
theorem dX3_between_61 : decode cX3_between 61 = .ok (.iaload, 1) := by decide +kernel
theorem dX3_between_62 : decode cX3_between 62 = .ok (.iload 7, 2) := by decide +kernel
theorem dX3_between_64 : decode cX3_between 64 = .ok (.iload_n 3, 1) := by decide +kernel
theorem dX3_between_65 : decode cX3_between 65 = .ok (.iload 5, 2) := by decide +kernel
theorem dX3_between_67 : decode cX3_between 67 = .ok (.invokestatic 56, 3) := by decide +kernel
theorem dX3_between_70 : decode cX3_between 70 = .ok (.iadd, 1) := by decide +kernel
theorem dX3_between_71 : decode cX3_between 71 = .ok (.istore 8, 2) := by decide +kernel
theorem dX3_between_73 : decode cX3_between 73 = .ok (.aload_n 0, 1) := by decide +kernel
theorem dX3_between_74 : decode cX3_between 74 = .ok (.getfield 18, 3) := by decide +kernel
theorem dX3_between_77 : decode cX3_between 77 = .ok (.iload_n 1, 1) := by decide +kernel
theorem dX3_between_78 : decode cX3_between 78 = .ok (.iaload, 1) := by decide +kernel
theorem dX3_between_79 : decode cX3_between 79 = .ok (.iload 7, 2) := by decide +kernel
theorem dX3_between_81 : decode cX3_between 81 = .ok (.iload 4, 2) := by decide +kernel
theorem dX3_between_83 : decode cX3_between 83 = .ok (.iload 5, 2) := by decide +kernel
theorem dX3_between_85 : decode cX3_between 85 = .ok (.invokestatic 56, 3) := by decide +kernel
theorem dX3_between_88 : decode cX3_between 88 = .ok (.iadd, 1) := by decide +kernel
theorem dX3_between_89 : decode cX3_between 89 = .ok (.istore 9, 2) := by decide +kernel
theorem dX3_between_91 : decode cX3_between 91 = .ok (.iload 6, 2) := by decide +kernel
theorem dX3_between_93 : decode cX3_between 93 = .ok (.iconst 1, 1) := by decide +kernel
theorem dX3_between_94 : decode cX3_between 94 = .ok (.iload 8, 2) := by decide +kernel
theorem dX3_between_96 : decode cX3_between 96 = .ok (.aload_n 0, 1) := by decide +kernel
theorem dX3_between_97 : decode cX3_between 97 = .ok (.getfield 28, 3) := by decide +kernel
theorem dX3_between_100 : decode cX3_between 100 = .ok (.imul, 1) := by decide +kernel
theorem dX3_between_101 : decode cX3_between 101 = .ok (.iload 9, 2) := by decide +kernel
theorem dX3_between_103 : decode cX3_between 103 = .ok (.iadd, 1) := by decide +kernel
theorem dX3_between_104 : decode cX3_between 104 = .ok (.ishl, 1) := by decide +kernel
theorem dX3_between_105 : decode cX3_between 105 = .ok (.ior, 1) := by decide +kernel
theorem dX3_between_106 : decode cX3_between 106 = .ok (.istore 6, 2) := by decide +kernel
theorem dX3_between_108 : decode cX3_between 108 = .ok (.iinc 7 1, 3) := by decide +kernel
theorem dX3_between_111 : decode cX3_between 111 = .ok (.goto (-62), 3) := by decide +kernel
theorem dX3_between_114 : decode cX3_between 114 = .ok (.iload 6, 2) := by decide +kernel
theorem dX3_between_116 : decode cX3_between 116 = .ok (.ireturn, 1) := by decide +kernel
theorem dX3_stepsOn_0 : decode cX3_stepsOn 0 = .ok (.iconst 2, 1) := by decide +kernel
theorem dX3_stepsOn_1 : decode cX3_stepsOn 1 = .ok (.iload_n 0, 1) := by decide +kernel
theorem dX3_stepsOn_2 : decode cX3_stepsOn 2 = .ok (.imul, 1) := by decide +kernel
theorem dX3_stepsOn_3 : decode cX3_stepsOn 3 = .ok (.iload_n 1, 1) := by decide +kernel
theorem dX3_stepsOn_4 : decode cX3_stepsOn 4 = .ok (.imul, 1) := by decide +kernel
theorem dX3_stepsOn_5 : decode cX3_stepsOn 5 = .ok (.istore_n 3, 1) := by decide +kernel
theorem dX3_stepsOn_6 : decode cX3_stepsOn 6 = .ok (.iload_n 3, 1) := by decide +kernel
theorem dX3_stepsOn_7 : decode cX3_stepsOn 7 = .ok (.ifCond .ge 9, 3) := by decide +kernel
theorem dX3_stepsOn_10 : decode cX3_stepsOn 10 = .ok (.iload_n 3, 1) := by decide +kernel
theorem dX3_stepsOn_11 : decode cX3_stepsOn 11 = .ok (.iload_n 2, 1) := by decide +kernel
theorem dX3_stepsOn_12 : decode cX3_stepsOn 12 = .ok (.isub, 1) := by decide +kernel
theorem dX3_stepsOn_13 : decode cX3_stepsOn 13 = .ok (.goto 6, 3) := by decide +kernel
theorem dX3_stepsOn_16 : decode cX3_stepsOn 16 = .ok (.iload_n 3, 1) := by decide +kernel
theorem dX3_stepsOn_17 : decode cX3_stepsOn 17 = .ok (.iload_n 2, 1) := by decide +kernel
theorem dX3_stepsOn_18 : decode cX3_stepsOn 18 = .ok (.iadd, 1) := by decide +kernel
theorem dX3_stepsOn_19 : decode cX3_stepsOn 19 = .ok (.iconst 2, 1) := by decide +kernel
theorem dX3_stepsOn_20 : decode cX3_stepsOn 20 = .ok (.iload_n 2, 1) := by decide +kernel
theorem dX3_stepsOn_21 : decode cX3_stepsOn 21 = .ok (.imul, 1) := by decide +kernel
theorem dX3_stepsOn_22 : decode cX3_stepsOn 22 = .ok (.idiv, 1) := by decide +kernel
theorem dX3_stepsOn_23 : decode cX3_stepsOn 23 = .ok (.ireturn, 1) := by decide +kernel
theorem dX3_hillsOn_0 : decode cX3_hillsOn 0 = .ok (.iload_n 1, 1) := by decide +kernel
theorem dX3_hillsOn_1 : decode cX3_hillsOn 1 = .ok (.aload_n 0, 1) := by decide +kernel
theorem dX3_hillsOn_2 : decode cX3_hillsOn 2 = .ok (.getfield 21, 3) := by decide +kernel
theorem dX3_hillsOn_5 : decode cX3_hillsOn 5 = .ok (.aload_n 0, 1) := by decide +kernel
theorem dX3_hillsOn_6 : decode cX3_hillsOn 6 = .ok (.getfield 9, 3) := by decide +kernel
theorem dX3_hillsOn_9 : decode cX3_hillsOn 9 = .ok (.iload_n 2, 1) := by decide +kernel
theorem dX3_hillsOn_10 : decode cX3_hillsOn 10 = .ok (.iaload, 1) := by decide +kernel
theorem dX3_hillsOn_11 : decode cX3_hillsOn 11 = .ok (.aload_n 0, 1) := by decide +kernel
theorem dX3_hillsOn_12 : decode cX3_hillsOn 12 = .ok (.getfield 9, 3) := by decide +kernel
theorem dX3_hillsOn_15 : decode cX3_hillsOn 15 = .ok (.iload_n 3, 1) := by decide +kernel
theorem dX3_hillsOn_16 : decode cX3_hillsOn 16 = .ok (.iaload, 1) := by decide +kernel
theorem dX3_hillsOn_17 : decode cX3_hillsOn 17 = .ok (.invokestatic 52, 3) := by decide +kernel
theorem dX3_hillsOn_20 : decode cX3_hillsOn 20 = .ok (.iaload, 1) := by decide +kernel
theorem dX3_hillsOn_21 : decode cX3_hillsOn 21 = .ok (.iand, 1) := by decide +kernel
theorem dX3_hillsOn_22 : decode cX3_hillsOn 22 = .ok (.invokestatic 60, 3) := by decide +kernel
theorem dX3_hillsOn_25 : decode cX3_hillsOn 25 = .ok (.ireturn, 1) := by decide +kernel
theorem dX3_downwind_0 : decode cX3_downwind 0 = .ok (.iload_n 3, 1) := by decide +kernel
theorem dX3_downwind_1 : decode cX3_downwind 1 = .ok (.bipush 10, 2) := by decide +kernel
theorem dX3_downwind_3 : decode cX3_downwind 3 = .ok (.idiv, 1) := by decide +kernel
theorem dX3_downwind_4 : decode cX3_downwind 4 = .ok (.tableswitch 70 0 2 #[28, 42, 56], 28) := by decide +kernel
theorem dX3_downwind_32 : decode cX3_downwind 32 = .ok (.aload_n 0, 1) := by decide +kernel
theorem dX3_downwind_33 : decode cX3_downwind 33 = .ok (.getfield 15, 3) := by decide +kernel
theorem dX3_downwind_36 : decode cX3_downwind 36 = .ok (.iload_n 1, 1) := by decide +kernel
theorem dX3_downwind_37 : decode cX3_downwind 37 = .ok (.iaload, 1) := by decide +kernel
theorem dX3_downwind_38 : decode cX3_downwind 38 = .ok (.aload_n 0, 1) := by decide +kernel
theorem dX3_downwind_39 : decode cX3_downwind 39 = .ok (.getfield 15, 3) := by decide +kernel
theorem dX3_downwind_42 : decode cX3_downwind 42 = .ok (.iload_n 2, 1) := by decide +kernel
theorem dX3_downwind_43 : decode cX3_downwind 43 = .ok (.iaload, 1) := by decide +kernel
theorem dX3_downwind_44 : decode cX3_downwind 44 = .ok (.isub, 1) := by decide +kernel
theorem dX3_downwind_45 : decode cX3_downwind 45 = .ok (.ireturn, 1) := by decide +kernel
theorem dX3_downwind_46 : decode cX3_downwind 46 = .ok (.aload_n 0, 1) := by decide +kernel
theorem dX3_downwind_47 : decode cX3_downwind 47 = .ok (.getfield 18, 3) := by decide +kernel
theorem dX3_downwind_50 : decode cX3_downwind 50 = .ok (.iload_n 2, 1) := by decide +kernel
theorem dX3_downwind_51 : decode cX3_downwind 51 = .ok (.iaload, 1) := by decide +kernel
theorem dX3_downwind_52 : decode cX3_downwind 52 = .ok (.aload_n 0, 1) := by decide +kernel
theorem dX3_downwind_53 : decode cX3_downwind 53 = .ok (.getfield 18, 3) := by decide +kernel
theorem dX3_downwind_56 : decode cX3_downwind 56 = .ok (.iload_n 1, 1) := by decide +kernel
theorem dX3_downwind_57 : decode cX3_downwind 57 = .ok (.iaload, 1) := by decide +kernel
theorem dX3_downwind_58 : decode cX3_downwind 58 = .ok (.isub, 1) := by decide +kernel
theorem dX3_downwind_59 : decode cX3_downwind 59 = .ok (.ireturn, 1) := by decide +kernel
theorem dX3_downwind_60 : decode cX3_downwind 60 = .ok (.aload_n 0, 1) := by decide +kernel
theorem dX3_downwind_61 : decode cX3_downwind 61 = .ok (.getfield 15, 3) := by decide +kernel
theorem dX3_downwind_64 : decode cX3_downwind 64 = .ok (.iload_n 2, 1) := by decide +kernel
theorem dX3_downwind_65 : decode cX3_downwind 65 = .ok (.iaload, 1) := by decide +kernel
theorem dX3_downwind_66 : decode cX3_downwind 66 = .ok (.aload_n 0, 1) := by decide +kernel
theorem dX3_downwind_67 : decode cX3_downwind 67 = .ok (.getfield 15, 3) := by decide +kernel
theorem dX3_downwind_70 : decode cX3_downwind 70 = .ok (.iload_n 1, 1) := by decide +kernel
theorem dX3_downwind_71 : decode cX3_downwind 71 = .ok (.iaload, 1) := by decide +kernel
theorem dX3_downwind_72 : decode cX3_downwind 72 = .ok (.isub, 1) := by decide +kernel
theorem dX3_downwind_73 : decode cX3_downwind 73 = .ok (.ireturn, 1) := by decide +kernel
theorem dX3_downwind_74 : decode cX3_downwind 74 = .ok (.aload_n 0, 1) := by decide +kernel
theorem dX3_downwind_75 : decode cX3_downwind 75 = .ok (.getfield 18, 3) := by decide +kernel
theorem dX3_downwind_78 : decode cX3_downwind 78 = .ok (.iload_n 1, 1) := by decide +kernel
theorem dX3_downwind_79 : decode cX3_downwind 79 = .ok (.iaload, 1) := by decide +kernel
theorem dX3_downwind_80 : decode cX3_downwind 80 = .ok (.aload_n 0, 1) := by decide +kernel
theorem dX3_downwind_81 : decode cX3_downwind 81 = .ok (.getfield 18, 3) := by decide +kernel
theorem dX3_downwind_84 : decode cX3_downwind 84 = .ok (.iload_n 2, 1) := by decide +kernel
theorem dX3_downwind_85 : decode cX3_downwind 85 = .ok (.iaload, 1) := by decide +kernel
theorem dX3_downwind_86 : decode cX3_downwind 86 = .ok (.isub, 1) := by decide +kernel
theorem dX3_downwind_87 : decode cX3_downwind 87 = .ok (.ireturn, 1) := by decide +kernel
theorem dX4_init_0 : decode cX4_init 0 = .ok (.aload_n 0, 1) := by decide +kernel
theorem dX4_init_1 : decode cX4_init 1 = .ok (.invokespecial 3, 3) := by decide +kernel
theorem dX4_init_4 : decode cX4_init 4 = .ok (.aload_n 0, 1) := by decide +kernel
theorem dX4_init_5 : decode cX4_init 5 = .ok (.aload_n 1, 1) := by decide +kernel
theorem dX4_init_6 : decode cX4_init 6 = .ok (.putfield 9, 3) := by decide +kernel
theorem dX4_init_9 : decode cX4_init 9 = .ok (.aload_n 0, 1) := by decide +kernel
theorem dX4_init_10 : decode cX4_init 10 = .ok (.aload_n 2, 1) := by decide +kernel
theorem dX4_init_11 : decode cX4_init 11 = .ok (.putfield 15, 3) := by decide +kernel
theorem dX4_init_14 : decode cX4_init 14 = .ok (.aload_n 0, 1) := by decide +kernel
theorem dX4_init_15 : decode cX4_init 15 = .ok (.bipush 10, 2) := by decide +kernel
theorem dX4_init_17 : decode cX4_init 17 = .ok (.newarray .int, 2) := by decide +kernel
theorem dX4_init_19 : decode cX4_init 19 = .ok (.putfield 19, 3) := by decide +kernel
theorem dX4_init_22 : decode cX4_init 22 = .ok (.aload_n 0, 1) := by decide +kernel
theorem dX4_init_23 : decode cX4_init 23 = .ok (.bipush 10, 2) := by decide +kernel
theorem dX4_init_25 : decode cX4_init 25 = .ok (.newarray .int, 2) := by decide +kernel
theorem dX4_init_27 : decode cX4_init 27 = .ok (.putfield 23, 3) := by decide +kernel
theorem dX4_init_30 : decode cX4_init 30 = .ok (.aload_n 0, 1) := by decide +kernel
theorem dX4_init_31 : decode cX4_init 31 = .ok (.bipush 10, 2) := by decide +kernel
theorem dX4_init_33 : decode cX4_init 33 = .ok (.newarray .int, 2) := by decide +kernel
theorem dX4_init_35 : decode cX4_init 35 = .ok (.putfield 26, 3) := by decide +kernel
theorem dX4_init_38 : decode cX4_init 38 = .ok (.aload_n 0, 1) := by decide +kernel
theorem dX4_init_39 : decode cX4_init 39 = .ok (.bipush 10, 2) := by decide +kernel
theorem dX4_init_41 : decode cX4_init 41 = .ok (.newarray .int, 2) := by decide +kernel
theorem dX4_init_43 : decode cX4_init 43 = .ok (.putfield 29, 3) := by decide +kernel
theorem dX4_init_46 : decode cX4_init 46 = .ok (.return_, 1) := by decide +kernel
theorem dX5_init_0 : decode cX5_init 0 = .ok (.aload_n 0, 1) := by decide +kernel
theorem dX5_init_1 : decode cX5_init 1 = .ok (.invokespecial 3, 3) := by decide +kernel
theorem dX5_init_4 : decode cX5_init 4 = .ok (.aload_n 0, 1) := by decide +kernel
theorem dX5_init_5 : decode cX5_init 5 = .ok (.aload_n 1, 1) := by decide +kernel
theorem dX5_init_6 : decode cX5_init 6 = .ok (.putfield 9, 3) := by decide +kernel
theorem dX5_init_9 : decode cX5_init 9 = .ok (.aload_n 0, 1) := by decide +kernel
theorem dX5_init_10 : decode cX5_init 10 = .ok (.aload_n 2, 1) := by decide +kernel
theorem dX5_init_11 : decode cX5_init 11 = .ok (.putfield 15, 3) := by decide +kernel
theorem dX5_init_14 : decode cX5_init 14 = .ok (.aload_n 0, 1) := by decide +kernel
theorem dX5_init_15 : decode cX5_init 15 = .ok (.bipush 6, 2) := by decide +kernel
theorem dX5_init_17 : decode cX5_init 17 = .ok (.newarray .int, 2) := by decide +kernel
theorem dX5_init_19 : decode cX5_init 19 = .ok (.putfield 19, 3) := by decide +kernel
theorem dX5_init_22 : decode cX5_init 22 = .ok (.aload_n 0, 1) := by decide +kernel
theorem dX5_init_23 : decode cX5_init 23 = .ok (.bipush 6, 2) := by decide +kernel
theorem dX5_init_25 : decode cX5_init 25 = .ok (.newarray .int, 2) := by decide +kernel
theorem dX5_init_27 : decode cX5_init 27 = .ok (.putfield 23, 3) := by decide +kernel
theorem dX5_init_30 : decode cX5_init 30 = .ok (.return_, 1) := by decide +kernel
theorem dX6_init_0 : decode cX6_init 0 = .ok (.aload_n 0, 1) := by decide +kernel
theorem dX6_init_1 : decode cX6_init 1 = .ok (.invokespecial 3, 3) := by decide +kernel
theorem dX6_init_4 : decode cX6_init 4 = .ok (.aload_n 0, 1) := by decide +kernel
theorem dX6_init_5 : decode cX6_init 5 = .ok (.bipush 60, 2) := by decide +kernel
theorem dX6_init_7 : decode cX6_init 7 = .ok (.newarray .int, 2) := by decide +kernel
theorem dX6_init_9 : decode cX6_init 9 = .ok (.putfield 9, 3) := by decide +kernel
theorem dX6_init_12 : decode cX6_init 12 = .ok (.return_, 1) := by decide +kernel
theorem dX6_renew_0 : decode cX6_renew 0 = .ok (.aload_n 0, 1) := by decide +kernel
theorem dX6_renew_1 : decode cX6_renew 1 = .ok (.iconst 1, 1) := by decide +kernel
theorem dX6_renew_2 : decode cX6_renew 2 = .ok (.putfield 15, 3) := by decide +kernel
theorem dX6_renew_5 : decode cX6_renew 5 = .ok (.aload_n 0, 1) := by decide +kernel
theorem dX6_renew_6 : decode cX6_renew 6 = .ok (.iload_n 1, 1) := by decide +kernel
theorem dX6_renew_7 : decode cX6_renew 7 = .ok (.putfield 19, 3) := by decide +kernel
theorem dX6_renew_10 : decode cX6_renew 10 = .ok (.aload_n 0, 1) := by decide +kernel
theorem dX6_renew_11 : decode cX6_renew 11 = .ok (.iload_n 2, 1) := by decide +kernel
theorem dX6_renew_12 : decode cX6_renew 12 = .ok (.putfield 23, 3) := by decide +kernel
theorem dX6_renew_15 : decode cX6_renew 15 = .ok (.aload_n 0, 1) := by decide +kernel
theorem dX6_renew_16 : decode cX6_renew 16 = .ok (.getfield 9, 3) := by decide +kernel
theorem dX6_renew_19 : decode cX6_renew 19 = .ok (.iconst 0, 1) := by decide +kernel
theorem dX6_renew_20 : decode cX6_renew 20 = .ok (.invokestatic 26, 3) := by decide +kernel
theorem dX6_renew_23 : decode cX6_renew 23 = .ok (.return_, 1) := by decide +kernel
theorem dX6_cut_0 : decode cX6_cut 0 = .ok (.aload_n 0, 1) := by decide +kernel
theorem dX6_cut_1 : decode cX6_cut 1 = .ok (.getfield 19, 3) := by decide +kernel
theorem dX6_cut_4 : decode cX6_cut 4 = .ok (.ifCond .ne 6, 3) := by decide +kernel
theorem dX6_cut_7 : decode cX6_cut 7 = .ok (.iload_n 1, 1) := by decide +kernel
theorem dX6_cut_8 : decode cX6_cut 8 = .ok (.i2b, 1) := by decide +kernel
theorem dX6_cut_9 : decode cX6_cut 9 = .ok (.ireturn, 1) := by decide +kernel
theorem dX6_cut_10 : decode cX6_cut 10 = .ok (.aload_n 0, 1) := by decide +kernel
theorem dX6_cut_11 : decode cX6_cut 11 = .ok (.getfield 19, 3) := by decide +kernel
theorem dX6_cut_14 : decode cX6_cut 14 = .ok (.iconst 1, 1) := by decide +kernel
theorem dX6_cut_15 : decode cX6_cut 15 = .ok (.if_icmp .ne 8, 3) := by decide +kernel
theorem dX6_cut_18 : decode cX6_cut 18 = .ok (.iload_n 1, 1) := by decide +kernel
theorem dX6_cut_19 : decode cX6_cut 19 = .ok (.i2s, 1) := by decide +kernel
theorem dX6_cut_20 : decode cX6_cut 20 = .ok (.goto 4, 3) := by decide +kernel
theorem dX6_cut_23 : decode cX6_cut 23 = .ok (.iload_n 1, 1) := by decide +kernel
theorem dX6_cut_24 : decode cX6_cut 24 = .ok (.ireturn, 1) := by decide +kernel
theorem dX6_hasNumber_0 : decode cX6_hasNumber 0 = .ok (.iload_n 1, 1) := by decide +kernel
theorem dX6_hasNumber_1 : decode cX6_hasNumber 1 = .ok (.ifCond .lt 15, 3) := by decide +kernel
theorem dX6_hasNumber_4 : decode cX6_hasNumber 4 = .ok (.iload_n 1, 1) := by decide +kernel
theorem dX6_hasNumber_5 : decode cX6_hasNumber 5 = .ok (.aload_n 0, 1) := by decide +kernel
theorem dX6_hasNumber_6 : decode cX6_hasNumber 6 = .ok (.getfield 23, 3) := by decide +kernel
theorem dX6_hasNumber_9 : decode cX6_hasNumber 9 = .ok (.if_icmp .ge 7, 3) := by decide +kernel
theorem dX6_hasNumber_12 : decode cX6_hasNumber 12 = .ok (.iconst 1, 1) := by decide +kernel
theorem dX6_hasNumber_13 : decode cX6_hasNumber 13 = .ok (.goto 4, 3) := by decide +kernel
theorem dX6_hasNumber_16 : decode cX6_hasNumber 16 = .ok (.iconst 0, 1) := by decide +kernel
theorem dX6_hasNumber_17 : decode cX6_hasNumber 17 = .ok (.ireturn, 1) := by decide +kernel
theorem dX6_hasNumbers_0 : decode cX6_hasNumbers 0 = .ok (.iload_n 2, 1) := by decide +kernel
theorem dX6_hasNumbers_1 : decode cX6_hasNumbers 1 = .ok (.ifCond .lt 29, 3) := by decide +kernel
theorem dX6_hasNumbers_4 : decode cX6_hasNumbers 4 = .ok (.iload_n 1, 1) := by decide +kernel
theorem dX6_hasNumbers_5 : decode cX6_hasNumbers 5 = .ok (.ifCond .lt 25, 3) := by decide +kernel
theorem dX6_hasNumbers_8 : decode cX6_hasNumbers 8 = .ok (.iload_n 1, 1) := by decide +kernel
theorem dX6_hasNumbers_9 : decode cX6_hasNumbers 9 = .ok (.aload_n 0, 1) := by decide +kernel
theorem dX6_hasNumbers_10 : decode cX6_hasNumbers 10 = .ok (.getfield 23, 3) := by decide +kernel
theorem dX6_hasNumbers_13 : decode cX6_hasNumbers 13 = .ok (.if_icmp .gt 17, 3) := by decide +kernel
theorem dX6_hasNumbers_16 : decode cX6_hasNumbers 16 = .ok (.iload_n 2, 1) := by decide +kernel
theorem dX6_hasNumbers_17 : decode cX6_hasNumbers 17 = .ok (.aload_n 0, 1) := by decide +kernel
theorem dX6_hasNumbers_18 : decode cX6_hasNumbers 18 = .ok (.getfield 23, 3) := by decide +kernel
theorem dX6_hasNumbers_21 : decode cX6_hasNumbers 21 = .ok (.iload_n 1, 1) := by decide +kernel
theorem dX6_hasNumbers_22 : decode cX6_hasNumbers 22 = .ok (.isub, 1) := by decide +kernel
theorem dX6_hasNumbers_23 : decode cX6_hasNumbers 23 = .ok (.if_icmp .gt 7, 3) := by decide +kernel
theorem dX6_hasNumbers_26 : decode cX6_hasNumbers 26 = .ok (.iconst 1, 1) := by decide +kernel
theorem dX6_hasNumbers_27 : decode cX6_hasNumbers 27 = .ok (.goto 4, 3) := by decide +kernel
theorem dX6_hasNumbers_30 : decode cX6_hasNumbers 30 = .ok (.iconst 0, 1) := by decide +kernel
theorem dX6_hasNumbers_31 : decode cX6_hasNumbers 31 = .ok (.ireturn, 1) := by decide +kernel
theorem dX6_faultOfSort_0 : decode cX6_faultOfSort 0 = .ok (.aload_n 0, 1) := by decide +kernel
theorem dX6_faultOfSort_1 : decode cX6_faultOfSort 1 = .ok (.getfield 15, 3) := by decide +kernel
theorem dX6_faultOfSort_4 : decode cX6_faultOfSort 4 = .ok (.ifCond .ne 5, 3) := by decide +kernel
theorem dX6_faultOfSort_7 : decode cX6_faultOfSort 7 = .ok (.iconst 1, 1) := by decide +kernel
theorem dX6_faultOfSort_8 : decode cX6_faultOfSort 8 = .ok (.ireturn, 1) := by decide +kernel
theorem dX6_faultOfSort_9 : decode cX6_faultOfSort 9 = .ok (.aload_n 0, 1) := by decide +kernel
theorem dX6_faultOfSort_10 : decode cX6_faultOfSort 10 = .ok (.getfield 19, 3) := by decide +kernel
theorem dX6_faultOfSort_13 : decode cX6_faultOfSort 13 = .ok (.iload_n 1, 1) := by decide +kernel
theorem dX6_faultOfSort_14 : decode cX6_faultOfSort 14 = .ok (.if_icmp .ne 7, 3) := by decide +kernel
theorem dX6_faultOfSort_17 : decode cX6_faultOfSort 17 = .ok (.iconst 0, 1) := by decide +kernel
theorem dX6_faultOfSort_18 : decode cX6_faultOfSort 18 = .ok (.goto 4, 3) := by decide +kernel
theorem dX6_faultOfSort_21 : decode cX6_faultOfSort 21 = .ok (.iconst 2, 1) := by decide +kernel
theorem dX6_faultOfSort_22 : decode cX6_faultOfSort 22 = .ok (.ireturn, 1) := by decide +kernel
theorem dX6_faultOfRow_0 : decode cX6_faultOfRow 0 = .ok (.aload_n 0, 1) := by decide +kernel
theorem dX6_faultOfRow_1 : decode cX6_faultOfRow 1 = .ok (.iload_n 1, 1) := by decide +kernel
theorem dX6_faultOfRow_2 : decode cX6_faultOfRow 2 = .ok (.invokevirtual 32, 3) := by decide +kernel
theorem dX6_faultOfRow_5 : decode cX6_faultOfRow 5 = .ok (.istore 4, 2) := by decide +kernel
theorem dX6_faultOfRow_7 : decode cX6_faultOfRow 7 = .ok (.iload 4, 2) := by decide +kernel
theorem dX6_faultOfRow_9 : decode cX6_faultOfRow 9 = .ok (.ifCond .eq 6, 3) := by decide +kernel
theorem dX6_faultOfRow_12 : decode cX6_faultOfRow 12 = .ok (.iload 4, 2) := by decide +kernel
theorem dX6_faultOfRow_14 : decode cX6_faultOfRow 14 = .ok (.ireturn, 1) := by decide +kernel
theorem dX6_faultOfRow_15 : decode cX6_faultOfRow 15 = .ok (.iload_n 3, 1) := by decide +kernel
theorem dX6_faultOfRow_16 : decode cX6_faultOfRow 16 = .ok (.ifCond .ge 5, 3) := by decide +kernel
theorem dX6_faultOfRow_19 : decode cX6_faultOfRow 19 = .ok (.iconst 4, 1) := by decide +kernel
theorem dX6_faultOfRow_20 : decode cX6_faultOfRow 20 = .ok (.ireturn, 1) := by decide +kernel
theorem dX6_faultOfRow_21 : decode cX6_faultOfRow 21 = .ok (.aload_n 0, 1) := by decide +kernel
theorem dX6_faultOfRow_22 : decode cX6_faultOfRow 22 = .ok (.iload_n 2, 1) := by decide +kernel
theorem dX6_faultOfRow_23 : decode cX6_faultOfRow 23 = .ok (.iload_n 3, 1) := by decide +kernel
theorem dX6_faultOfRow_24 : decode cX6_faultOfRow 24 = .ok (.invokevirtual 36, 3) := by decide +kernel
theorem dX6_faultOfRow_27 : decode cX6_faultOfRow 27 = .ok (.ifCond .eq 7, 3) := by decide +kernel
theorem dX6_faultOfRow_30 : decode cX6_faultOfRow 30 = .ok (.iconst 0, 1) := by decide +kernel
theorem dX6_faultOfRow_31 : decode cX6_faultOfRow 31 = .ok (.goto 4, 3) := by decide +kernel
theorem dX6_faultOfRow_34 : decode cX6_faultOfRow 34 = .ok (.iconst 3, 1) := by decide +kernel
theorem dX6_faultOfRow_35 : decode cX6_faultOfRow 35 = .ok (.ireturn, 1) := by decide +kernel
theorem dX7_init_0 : decode cX7_init 0 = .ok (.aload_n 0, 1) := by decide +kernel
theorem dX7_init_1 : decode cX7_init 1 = .ok (.invokespecial 3, 3) := by decide +kernel
theorem dX7_init_4 : decode cX7_init 4 = .ok (.aload_n 0, 1) := by decide +kernel
theorem dX7_init_5 : decode cX7_init 5 = .ok (.aload_n 1, 1) := by decide +kernel
theorem dX7_init_6 : decode cX7_init 6 = .ok (.putfield 9, 3) := by decide +kernel
theorem dX7_init_9 : decode cX7_init 9 = .ok (.aload_n 0, 1) := by decide +kernel
theorem dX7_init_10 : decode cX7_init 10 = .ok (.aload_n 2, 1) := by decide +kernel
theorem dX7_init_11 : decode cX7_init 11 = .ok (.putfield 15, 3) := by decide +kernel
theorem dX7_init_14 : decode cX7_init 14 = .ok (.aload_n 0, 1) := by decide +kernel
theorem dX7_init_15 : decode cX7_init 15 = .ok (.aload_n 3, 1) := by decide +kernel
theorem dX7_init_16 : decode cX7_init 16 = .ok (.putfield 19, 3) := by decide +kernel
theorem dX7_init_19 : decode cX7_init 19 = .ok (.aload_n 0, 1) := by decide +kernel
theorem dX7_init_20 : decode cX7_init 20 = .ok (.bipush 6, 2) := by decide +kernel
theorem dX7_init_22 : decode cX7_init 22 = .ok (.newarray .long, 2) := by decide +kernel
theorem dX7_init_24 : decode cX7_init 24 = .ok (.putfield 23, 3) := by decide +kernel
theorem dX7_init_27 : decode cX7_init 27 = .ok (.aload_n 0, 1) := by decide +kernel
theorem dX7_init_28 : decode cX7_init 28 = .ok (.bipush 6, 2) := by decide +kernel
theorem dX7_init_30 : decode cX7_init 30 = .ok (.newarray .int, 2) := by decide +kernel
theorem dX7_init_32 : decode cX7_init 32 = .ok (.putfield 27, 3) := by decide +kernel
theorem dX7_init_35 : decode cX7_init 35 = .ok (.return_, 1) := by decide +kernel
theorem dX8_init_0 : decode cX8_init 0 = .ok (.aload_n 0, 1) := by decide +kernel
theorem dX8_init_1 : decode cX8_init 1 = .ok (.invokespecial 5, 3) := by decide +kernel
theorem dX8_init_4 : decode cX8_init 4 = .ok (.aload_n 0, 1) := by decide +kernel
theorem dX8_init_5 : decode cX8_init 5 = .ok (.new 11, 3) := by decide +kernel
theorem dX8_init_8 : decode cX8_init 8 = .ok (.dup, 1) := by decide +kernel
theorem dX8_init_9 : decode cX8_init 9 = .ok (.invokespecial 13, 3) := by decide +kernel
theorem dX8_init_12 : decode cX8_init 12 = .ok (.putfield 14, 3) := by decide +kernel
theorem dX8_init_15 : decode cX8_init 15 = .ok (.aload_n 0, 1) := by decide +kernel
theorem dX8_init_16 : decode cX8_init 16 = .ok (.new 18, 3) := by decide +kernel
theorem dX8_init_19 : decode cX8_init 19 = .ok (.dup, 1) := by decide +kernel
theorem dX8_init_20 : decode cX8_init 20 = .ok (.invokespecial 20, 3) := by decide +kernel
theorem dX8_init_23 : decode cX8_init 23 = .ok (.putfield 21, 3) := by decide +kernel
theorem dX8_init_26 : decode cX8_init 26 = .ok (.aload_n 0, 1) := by decide +kernel
theorem dX8_init_27 : decode cX8_init 27 = .ok (.new 25, 3) := by decide +kernel
theorem dX8_init_30 : decode cX8_init 30 = .ok (.dup, 1) := by decide +kernel
theorem dX8_init_31 : decode cX8_init 31 = .ok (.aload_n 0, 1) := by decide +kernel
theorem dX8_init_32 : decode cX8_init 32 = .ok (.getfield 14, 3) := by decide +kernel
theorem dX8_init_35 : decode cX8_init 35 = .ok (.aload_n 0, 1) := by decide +kernel
theorem dX8_init_36 : decode cX8_init 36 = .ok (.getfield 21, 3) := by decide +kernel
theorem dX8_init_39 : decode cX8_init 39 = .ok (.invokespecial 27, 3) := by decide +kernel
theorem dX8_init_42 : decode cX8_init 42 = .ok (.putfield 30, 3) := by decide +kernel
theorem dX8_init_45 : decode cX8_init 45 = .ok (.aload_n 0, 1) := by decide +kernel
theorem dX8_init_46 : decode cX8_init 46 = .ok (.new 34, 3) := by decide +kernel
theorem dX8_init_49 : decode cX8_init 49 = .ok (.dup, 1) := by decide +kernel
theorem dX8_init_50 : decode cX8_init 50 = .ok (.aload_n 0, 1) := by decide +kernel
theorem dX8_init_51 : decode cX8_init 51 = .ok (.getfield 21, 3) := by decide +kernel
theorem dX8_init_54 : decode cX8_init 54 = .ok (.aload_n 0, 1) := by decide +kernel
theorem dX8_init_55 : decode cX8_init 55 = .ok (.getfield 30, 3) := by decide +kernel
theorem dX8_init_58 : decode cX8_init 58 = .ok (.invokespecial 36, 3) := by decide +kernel
theorem dX8_init_61 : decode cX8_init 61 = .ok (.putfield 39, 3) := by decide +kernel
theorem dX8_init_64 : decode cX8_init 64 = .ok (.aload_n 0, 1) := by decide +kernel
theorem dX8_init_65 : decode cX8_init 65 = .ok (.new 43, 3) := by decide +kernel
theorem dX8_init_68 : decode cX8_init 68 = .ok (.dup, 1) := by decide +kernel
theorem dX8_init_69 : decode cX8_init 69 = .ok (.aload_n 0, 1) := by decide +kernel
theorem dX8_init_70 : decode cX8_init 70 = .ok (.getfield 14, 3) := by decide +kernel
theorem dX8_init_73 : decode cX8_init 73 = .ok (.aload_n 0, 1) := by decide +kernel
theorem dX8_init_74 : decode cX8_init 74 = .ok (.getfield 21, 3) := by decide +kernel
theorem dX8_init_77 : decode cX8_init 77 = .ok (.aload_n 0, 1) := by decide +kernel
theorem dX8_init_78 : decode cX8_init 78 = .ok (.getfield 30, 3) := by decide +kernel
theorem dX8_init_81 : decode cX8_init 81 = .ok (.invokespecial 45, 3) := by decide +kernel
theorem dX8_init_84 : decode cX8_init 84 = .ok (.putfield 48, 3) := by decide +kernel
theorem dX8_init_87 : decode cX8_init 87 = .ok (.aload_n 0, 1) := by decide +kernel
theorem dX8_init_88 : decode cX8_init 88 = .ok (.new 52, 3) := by decide +kernel
theorem dX8_init_91 : decode cX8_init 91 = .ok (.dup, 1) := by decide +kernel
theorem dX8_init_92 : decode cX8_init 92 = .ok (.aload_n 0, 1) := by decide +kernel
theorem dX8_init_93 : decode cX8_init 93 = .ok (.getfield 21, 3) := by decide +kernel
theorem dX8_init_96 : decode cX8_init 96 = .ok (.aload_n 0, 1) := by decide +kernel
theorem dX8_init_97 : decode cX8_init 97 = .ok (.getfield 30, 3) := by decide +kernel
theorem dX8_init_100 : decode cX8_init 100 = .ok (.invokespecial 54, 3) := by decide +kernel
theorem dX8_init_103 : decode cX8_init 103 = .ok (.putfield 55, 3) := by decide +kernel
theorem dX8_init_106 : decode cX8_init 106 = .ok (.aload_n 0, 1) := by decide +kernel
theorem dX8_init_107 : decode cX8_init 107 = .ok (.new 59, 3) := by decide +kernel
theorem dX8_init_110 : decode cX8_init 110 = .ok (.dup, 1) := by decide +kernel
theorem dX8_init_111 : decode cX8_init 111 = .ok (.aload_n 0, 1) := by decide +kernel
theorem dX8_init_112 : decode cX8_init 112 = .ok (.getfield 21, 3) := by decide +kernel
theorem dX8_init_115 : decode cX8_init 115 = .ok (.aload_n 0, 1) := by decide +kernel
theorem dX8_init_116 : decode cX8_init 116 = .ok (.getfield 30, 3) := by decide +kernel
theorem dX8_init_119 : decode cX8_init 119 = .ok (.invokespecial 61, 3) := by decide +kernel
theorem dX8_init_122 : decode cX8_init 122 = .ok (.putfield 62, 3) := by decide +kernel
theorem dX8_init_125 : decode cX8_init 125 = .ok (.aload_n 0, 1) := by decide +kernel
theorem dX8_init_126 : decode cX8_init 126 = .ok (.iconst 4, 1) := by decide +kernel
theorem dX8_init_127 : decode cX8_init 127 = .ok (.anewarray 66, 3) := by decide +kernel
theorem dX8_init_130 : decode cX8_init 130 = .ok (.putfield 68, 3) := by decide +kernel
theorem dX8_init_133 : decode cX8_init 133 = .ok (.iconst 0, 1) := by decide +kernel
theorem dX8_init_134 : decode cX8_init 134 = .ok (.istore_n 1, 1) := by decide +kernel
theorem dX8_init_135 : decode cX8_init 135 = .ok (.iload_n 1, 1) := by decide +kernel
theorem dX8_init_136 : decode cX8_init 136 = .ok (.iconst 4, 1) := by decide +kernel
theorem dX8_init_137 : decode cX8_init 137 = .ok (.if_icmp .ge 22, 3) := by decide +kernel
theorem dX8_init_140 : decode cX8_init 140 = .ok (.aload_n 0, 1) := by decide +kernel
theorem dX8_init_141 : decode cX8_init 141 = .ok (.getfield 68, 3) := by decide +kernel
theorem dX8_init_144 : decode cX8_init 144 = .ok (.iload_n 1, 1) := by decide +kernel
theorem dX8_init_145 : decode cX8_init 145 = .ok (.new 66, 3) := by decide +kernel
theorem dX8_init_148 : decode cX8_init 148 = .ok (.dup, 1) := by decide +kernel
theorem dX8_init_149 : decode cX8_init 149 = .ok (.invokespecial 72, 3) := by decide +kernel
theorem dX8_init_152 : decode cX8_init 152 = .ok (.aastore, 1) := by decide +kernel
theorem dX8_init_153 : decode cX8_init 153 = .ok (.iinc 1 1, 3) := by decide +kernel
theorem dX8_init_156 : decode cX8_init 156 = .ok (.goto (-21), 3) := by decide +kernel
theorem dX8_init_159 : decode cX8_init 159 = .ok (.return_, 1) := by decide +kernel
theorem dX8_land_0 : decode cX8_land 0 = .ok (.aload_n 0, 1) := by decide +kernel
theorem dX8_land_1 : decode cX8_land 1 = .ok (.iconst 0, 1) := by decide +kernel
theorem dX8_land_2 : decode cX8_land 2 = .ok (.putfield 73, 3) := by decide +kernel
theorem dX8_land_5 : decode cX8_land 5 = .ok (.iload_n 1, 1) := by decide +kernel
theorem dX8_land_6 : decode cX8_land 6 = .ok (.invokestatic 77, 3) := by decide +kernel
theorem dX8_land_9 : decode cX8_land 9 = .ok (.ifCond .ne 5, 3) := by decide +kernel
theorem dX8_land_12 : decode cX8_land 12 = .ok (.iconst (-1), 1) := by decide +kernel
theorem dX8_land_13 : decode cX8_land 13 = .ok (.ireturn, 1) := by decide +kernel
theorem dX8_land_14 : decode cX8_land 14 = .ok (.iload_n 2, 1) := by decide +kernel
theorem dX8_land_15 : decode cX8_land 15 = .ok (.invokestatic 81, 3) := by decide +kernel
theorem dX8_land_18 : decode cX8_land 18 = .ok (.ifCond .ne 6, 3) := by decide +kernel
theorem dX8_land_21 : decode cX8_land 21 = .ok (.bipush (-2), 2) := by decide +kernel
theorem dX8_land_23 : decode cX8_land 23 = .ok (.ireturn, 1) := by decide +kernel
theorem dX8_land_24 : decode cX8_land 24 = .ok (.aload_n 0, 1) := by decide +kernel
theorem dX8_land_25 : decode cX8_land 25 = .ok (.getfield 68, 3) := by decide +kernel
theorem dX8_land_28 : decode cX8_land 28 = .ok (.iload_n 1, 1) := by decide +kernel
theorem dX8_land_29 : decode cX8_land 29 = .ok (.aaload, 1) := by decide +kernel
theorem dX8_land_30 : decode cX8_land 30 = .ok (.astore 5, 2) := by decide +kernel
theorem dX8_land_32 : decode cX8_land 32 = .ok (.aload_n 0, 1) := by decide +kernel
theorem dX8_land_33 : decode cX8_land 33 = .ok (.aload 5, 2) := by decide +kernel
theorem dX8_land_35 : decode cX8_land 35 = .ok (.iload_n 2, 1) := by decide +kernel
theorem dX8_land_36 : decode cX8_land 36 = .ok (.iload_n 3, 1) := by decide +kernel
theorem dX8_land_37 : decode cX8_land 37 = .ok (.iload 4, 2) := by decide +kernel
theorem dX8_land_39 : decode cX8_land 39 = .ok (.invokevirtual 84, 3) := by decide +kernel
theorem dX8_land_42 : decode cX8_land 42 = .ok (.putfield 73, 3) := by decide +kernel
theorem dX8_land_45 : decode cX8_land 45 = .ok (.aload_n 0, 1) := by decide +kernel
theorem dX8_land_46 : decode cX8_land 46 = .ok (.getfield 73, 3) := by decide +kernel
theorem dX8_land_49 : decode cX8_land 49 = .ok (.ifCond .eq 11, 3) := by decide +kernel
theorem dX8_land_52 : decode cX8_land 52 = .ok (.bipush (-10), 2) := by decide +kernel
theorem dX8_land_54 : decode cX8_land 54 = .ok (.aload_n 0, 1) := by decide +kernel
theorem dX8_land_55 : decode cX8_land 55 = .ok (.getfield 73, 3) := by decide +kernel
theorem dX8_land_58 : decode cX8_land 58 = .ok (.isub, 1) := by decide +kernel
theorem dX8_land_59 : decode cX8_land 59 = .ok (.ireturn, 1) := by decide +kernel
theorem dX8_land_60 : decode cX8_land 60 = .ok (.aload_n 0, 1) := by decide +kernel
theorem dX8_land_61 : decode cX8_land 61 = .ok (.getfield 14, 3) := by decide +kernel
theorem dX8_land_64 : decode cX8_land 64 = .ok (.aload 5, 2) := by decide +kernel
theorem dX8_land_66 : decode cX8_land 66 = .ok (.getfield 88, 3) := by decide +kernel
theorem dX8_land_69 : decode cX8_land 69 = .ok (.iload_n 3, 1) := by decide +kernel
theorem dX8_land_70 : decode cX8_land 70 = .ok (.iload 4, 2) := by decide +kernel
theorem dX8_land_72 : decode cX8_land 72 = .ok (.invokevirtual 92, 3) := by decide +kernel
theorem dX8_land_75 : decode cX8_land 75 = .ok (.istore 6, 2) := by decide +kernel
theorem dX8_land_77 : decode cX8_land 77 = .ok (.iload 6, 2) := by decide +kernel
theorem dX8_land_79 : decode cX8_land 79 = .ok (.bipush (-9), 2) := by decide +kernel
theorem dX8_land_81 : decode cX8_land 81 = .ok (.if_icmp .eq 9, 3) := by decide +kernel
theorem dX8_land_84 : decode cX8_land 84 = .ok (.bipush (-100), 2) := by decide +kernel
theorem dX8_land_86 : decode cX8_land 86 = .ok (.iload 6, 2) := by decide +kernel
theorem dX8_land_88 : decode cX8_land 88 = .ok (.isub, 1) := by decide +kernel
theorem dX8_land_89 : decode cX8_land 89 = .ok (.ireturn, 1) := by decide +kernel
theorem dX8_land_90 : decode cX8_land 90 = .ok (.aload_n 0, 1) := by decide +kernel
theorem dX8_land_91 : decode cX8_land 91 = .ok (.getfield 14, 3) := by decide +kernel
theorem dX8_land_94 : decode cX8_land 94 = .ok (.aload 5, 2) := by decide +kernel
theorem dX8_land_96 : decode cX8_land 96 = .ok (.getfield 88, 3) := by decide +kernel
theorem dX8_land_99 : decode cX8_land 99 = .ok (.iload_n 3, 1) := by decide +kernel
theorem dX8_land_100 : decode cX8_land 100 = .ok (.invokevirtual 96, 3) := by decide +kernel
theorem dX8_land_103 : decode cX8_land 103 = .ok (.aload_n 0, 1) := by decide +kernel
theorem dX8_land_104 : decode cX8_land 104 = .ok (.getfield 21, 3) := by decide +kernel
theorem dX8_land_107 : decode cX8_land 107 = .ok (.iconst 0, 1) := by decide +kernel
theorem dX8_land_108 : decode cX8_land 108 = .ok (.putfield 100, 3) := by decide +kernel
theorem dX8_land_111 : decode cX8_land 111 = .ok (.aload_n 0, 1) := by decide +kernel
theorem dX8_land_112 : decode cX8_land 112 = .ok (.getfield 39, 3) := by decide +kernel
theorem dX8_land_115 : decode cX8_land 115 = .ok (.iconst 0, 1) := by decide +kernel
theorem dX8_land_116 : decode cX8_land 116 = .ok (.putfield 103, 3) := by decide +kernel
theorem dX8_land_119 : decode cX8_land 119 = .ok (.aload_n 0, 1) := by decide +kernel
theorem dX8_land_120 : decode cX8_land 120 = .ok (.getfield 30, 3) := by decide +kernel
theorem dX8_land_123 : decode cX8_land 123 = .ok (.bipush 10, 2) := by decide +kernel
theorem dX8_land_125 : decode cX8_land 125 = .ok (.putfield 104, 3) := by decide +kernel
theorem dX8_land_128 : decode cX8_land 128 = .ok (.aload_n 0, 1) := by decide +kernel
theorem dX8_land_129 : decode cX8_land 129 = .ok (.getfield 14, 3) := by decide +kernel
theorem dX8_land_132 : decode cX8_land 132 = .ok (.getfield 107, 3) := by decide +kernel
theorem dX8_land_135 : decode cX8_land 135 = .ok (.ireturn, 1) := by decide +kernel
theorem dX8_plant_0 : decode cX8_plant 0 = .ok (.aload_n 0, 1) := by decide +kernel
theorem dX8_plant_1 : decode cX8_plant 1 = .ok (.iload_n 1, 1) := by decide +kernel
theorem dX8_plant_2 : decode cX8_plant 2 = .ok (.invokevirtual 110, 3) := by decide +kernel
theorem dX8_plant_5 : decode cX8_plant 5 = .ok (.ifCond .ne 5, 3) := by decide +kernel
theorem dX8_plant_8 : decode cX8_plant 8 = .ok (.iconst (-1), 1) := by decide +kernel
theorem dX8_plant_9 : decode cX8_plant 9 = .ok (.ireturn, 1) := by decide +kernel
theorem dX8_plant_10 : decode cX8_plant 10 = .ok (.aload_n 0, 1) := by decide +kernel
theorem dX8_plant_11 : decode cX8_plant 11 = .ok (.getfield 14, 3) := by decide +kernel
theorem dX8_plant_14 : decode cX8_plant 14 = .ok (.iload_n 1, 1) := by decide +kernel
theorem dX8_plant_15 : decode cX8_plant 15 = .ok (.invokevirtual 120, 3) := by decide +kernel
theorem dX8_plant_18 : decode cX8_plant 18 = .ok (.iload_n 2, 1) := by decide +kernel
theorem dX8_plant_19 : decode cX8_plant 19 = .ok (.if_icmp .ne 5, 3) := by decide +kernel
theorem dX8_plant_22 : decode cX8_plant 22 = .ok (.iconst 0, 1) := by decide +kernel
theorem dX8_plant_23 : decode cX8_plant 23 = .ok (.ireturn, 1) := by decide +kernel
theorem dX8_plant_24 : decode cX8_plant 24 = .ok (.aload_n 0, 1) := by decide +kernel
theorem dX8_plant_25 : decode cX8_plant 25 = .ok (.getfield 14, 3) := by decide +kernel
theorem dX8_plant_28 : decode cX8_plant 28 = .ok (.dup, 1) := by decide +kernel
theorem dX8_plant_29 : decode cX8_plant 29 = .ok (.getfield 126, 3) := by decide +kernel
theorem dX8_plant_32 : decode cX8_plant 32 = .ok (.iconst 1, 1) := by decide +kernel
theorem dX8_plant_33 : decode cX8_plant 33 = .ok (.iload_n 1, 1) := by decide +kernel
theorem dX8_plant_34 : decode cX8_plant 34 = .ok (.ishl, 1) := by decide +kernel
theorem dX8_plant_35 : decode cX8_plant 35 = .ok (.ixor, 1) := by decide +kernel
theorem dX8_plant_36 : decode cX8_plant 36 = .ok (.putfield 126, 3) := by decide +kernel
theorem dX8_plant_39 : decode cX8_plant 39 = .ok (.aload_n 0, 1) := by decide +kernel
theorem dX8_plant_40 : decode cX8_plant 40 = .ok (.getfield 30, 3) := by decide +kernel
theorem dX8_plant_43 : decode cX8_plant 43 = .ok (.invokevirtual 129, 3) := by decide +kernel
theorem dX8_plant_46 : decode cX8_plant 46 = .ok (.iconst 1, 1) := by decide +kernel
theorem dX8_plant_47 : decode cX8_plant 47 = .ok (.ireturn, 1) := by decide +kernel
theorem dX8_ear_0 : decode cX8_ear 0 = .ok (.iload_n 1, 1) := by decide +kernel
theorem dX8_ear_1 : decode cX8_ear 1 = .ok (.ifCond .lt 9, 3) := by decide +kernel
theorem dX8_ear_4 : decode cX8_ear 4 = .ok (.iload_n 1, 1) := by decide +kernel
theorem dX8_ear_5 : decode cX8_ear 5 = .ok (.bipush 99, 2) := by decide +kernel
theorem dX8_ear_7 : decode cX8_ear 7 = .ok (.if_icmp .le 6, 3) := by decide +kernel
theorem dX8_ear_10 : decode cX8_ear 10 = .ok (.bipush (-2), 2) := by decide +kernel
theorem dX8_ear_12 : decode cX8_ear 12 = .ok (.ireturn, 1) := by decide +kernel
theorem dX8_ear_13 : decode cX8_ear 13 = .ok (.aload_n 0, 1) := by decide +kernel
theorem dX8_ear_14 : decode cX8_ear 14 = .ok (.getfield 14, 3) := by decide +kernel
theorem dX8_ear_17 : decode cX8_ear 17 = .ok (.getfield 107, 3) := by decide +kernel
theorem dX8_ear_20 : decode cX8_ear 20 = .ok (.ifCond .ne 6, 3) := by decide +kernel
theorem dX8_ear_23 : decode cX8_ear 23 = .ok (.bipush (-3), 2) := by decide +kernel
theorem dX8_ear_25 : decode cX8_ear 25 = .ok (.ireturn, 1) := by decide +kernel
theorem dX8_ear_26 : decode cX8_ear 26 = .ok (.aload_n 0, 1) := by decide +kernel
theorem dX8_ear_27 : decode cX8_ear 27 = .ok (.getfield 30, 3) := by decide +kernel
theorem dX8_ear_30 : decode cX8_ear 30 = .ok (.getfield 104, 3) := by decide +kernel
theorem dX8_ear_33 : decode cX8_ear 33 = .ok (.istore_n 2, 1) := by decide +kernel
theorem dX8_ear_34 : decode cX8_ear 34 = .ok (.aload_n 0, 1) := by decide +kernel
theorem dX8_ear_35 : decode cX8_ear 35 = .ok (.getfield 30, 3) := by decide +kernel
theorem dX8_ear_38 : decode cX8_ear 38 = .ok (.iload_n 1, 1) := by decide +kernel
theorem dX8_ear_39 : decode cX8_ear 39 = .ok (.putfield 104, 3) := by decide +kernel
theorem dX8_ear_42 : decode cX8_ear 42 = .ok (.iload_n 2, 1) := by decide +kernel
theorem dX8_ear_43 : decode cX8_ear 43 = .ok (.ireturn, 1) := by decide +kernel
theorem dX8_bell_0 : decode cX8_bell 0 = .ok (.aload_n 0, 1) := by decide +kernel
theorem dX8_bell_1 : decode cX8_bell 1 = .ok (.iload_n 2, 1) := by decide +kernel
theorem dX8_bell_2 : decode cX8_bell 2 = .ok (.invokevirtual 110, 3) := by decide +kernel
theorem dX8_bell_5 : decode cX8_bell 5 = .ok (.ifCond .ne 5, 3) := by decide +kernel
theorem dX8_bell_8 : decode cX8_bell 8 = .ok (.iconst (-1), 1) := by decide +kernel
theorem dX8_bell_9 : decode cX8_bell 9 = .ok (.ireturn, 1) := by decide +kernel
theorem dX8_bell_10 : decode cX8_bell 10 = .ok (.iload_n 1, 1) := by decide +kernel
theorem dX8_bell_11 : decode cX8_bell 11 = .ok (.invokestatic 132, 3) := by decide +kernel
theorem dX8_bell_14 : decode cX8_bell 14 = .ok (.ifCond .eq 10, 3) := by decide +kernel
theorem dX8_bell_17 : decode cX8_bell 17 = .ok (.iload_n 3, 1) := by decide +kernel
theorem dX8_bell_18 : decode cX8_bell 18 = .ok (.invokestatic 135, 3) := by decide +kernel
theorem dX8_bell_21 : decode cX8_bell 21 = .ok (.ifCond .ne 6, 3) := by decide +kernel
theorem dX8_bell_24 : decode cX8_bell 24 = .ok (.bipush (-2), 2) := by decide +kernel
theorem dX8_bell_26 : decode cX8_bell 26 = .ok (.ireturn, 1) := by decide +kernel
theorem dX8_bell_27 : decode cX8_bell 27 = .ok (.aload_n 0, 1) := by decide +kernel
theorem dX8_bell_28 : decode cX8_bell 28 = .ok (.getfield 21, 3) := by decide +kernel
theorem dX8_bell_31 : decode cX8_bell 31 = .ok (.getfield 100, 3) := by decide +kernel
theorem dX8_bell_34 : decode cX8_bell 34 = .ok (.bipush 6, 2) := by decide +kernel
theorem dX8_bell_36 : decode cX8_bell 36 = .ok (.if_icmp .lt 6, 3) := by decide +kernel
theorem dX8_bell_39 : decode cX8_bell 39 = .ok (.bipush (-4), 2) := by decide +kernel
theorem dX8_bell_41 : decode cX8_bell 41 = .ok (.ireturn, 1) := by decide +kernel
theorem dX8_bell_42 : decode cX8_bell 42 = .ok (.aload_n 0, 1) := by decide +kernel
theorem dX8_bell_43 : decode cX8_bell 43 = .ok (.getfield 21, 3) := by decide +kernel
theorem dX8_bell_46 : decode cX8_bell 46 = .ok (.iload_n 1, 1) := by decide +kernel
theorem dX8_bell_47 : decode cX8_bell 47 = .ok (.iload_n 2, 1) := by decide +kernel
theorem dX8_bell_48 : decode cX8_bell 48 = .ok (.iload_n 3, 1) := by decide +kernel
theorem dX8_bell_49 : decode cX8_bell 49 = .ok (.invokevirtual 138, 3) := by decide +kernel
theorem dX8_bell_52 : decode cX8_bell 52 = .ok (.istore 4, 2) := by decide +kernel
theorem dX8_bell_54 : decode cX8_bell 54 = .ok (.aload_n 0, 1) := by decide +kernel
theorem dX8_bell_55 : decode cX8_bell 55 = .ok (.getfield 30, 3) := by decide +kernel
theorem dX8_bell_58 : decode cX8_bell 58 = .ok (.iload 4, 2) := by decide +kernel
theorem dX8_bell_60 : decode cX8_bell 60 = .ok (.invokevirtual 141, 3) := by decide +kernel
theorem dX8_bell_63 : decode cX8_bell 63 = .ok (.iload 4, 2) := by decide +kernel
theorem dX8_bell_65 : decode cX8_bell 65 = .ok (.ireturn, 1) := by decide +kernel
theorem dX8_ofBell_0 : decode cX8_ofBell 0 = .ok (.aload_n 0, 1) := by decide +kernel
theorem dX8_ofBell_1 : decode cX8_ofBell 1 = .ok (.iload_n 1, 1) := by decide +kernel
theorem dX8_ofBell_2 : decode cX8_ofBell 2 = .ok (.invokevirtual 145, 3) := by decide +kernel
theorem dX8_ofBell_5 : decode cX8_ofBell 5 = .ok (.ifCond .ne 5, 3) := by decide +kernel
theorem dX8_ofBell_8 : decode cX8_ofBell 8 = .ok (.iconst (-1), 1) := by decide +kernel
theorem dX8_ofBell_9 : decode cX8_ofBell 9 = .ok (.ireturn, 1) := by decide +kernel
theorem dX8_ofBell_10 : decode cX8_ofBell 10 = .ok (.iload_n 2, 1) := by decide +kernel
theorem dX8_ofBell_11 : decode cX8_ofBell 11 = .ok (.tableswitch 55 0 2 #[25, 35, 45], 25) := by decide +kernel
theorem dX8_ofBell_36 : decode cX8_ofBell 36 = .ok (.aload_n 0, 1) := by decide +kernel
theorem dX8_ofBell_37 : decode cX8_ofBell 37 = .ok (.getfield 21, 3) := by decide +kernel
theorem dX8_ofBell_40 : decode cX8_ofBell 40 = .ok (.getfield 148, 3) := by decide +kernel
theorem dX8_ofBell_43 : decode cX8_ofBell 43 = .ok (.iload_n 1, 1) := by decide +kernel
theorem dX8_ofBell_44 : decode cX8_ofBell 44 = .ok (.iaload, 1) := by decide +kernel
theorem dX8_ofBell_45 : decode cX8_ofBell 45 = .ok (.ireturn, 1) := by decide +kernel
theorem dX8_ofBell_46 : decode cX8_ofBell 46 = .ok (.aload_n 0, 1) := by decide +kernel
theorem dX8_ofBell_47 : decode cX8_ofBell 47 = .ok (.getfield 21, 3) := by decide +kernel
theorem dX8_ofBell_50 : decode cX8_ofBell 50 = .ok (.getfield 151, 3) := by decide +kernel
theorem dX8_ofBell_53 : decode cX8_ofBell 53 = .ok (.iload_n 1, 1) := by decide +kernel
theorem dX8_ofBell_54 : decode cX8_ofBell 54 = .ok (.iaload, 1) := by decide +kernel
theorem dX8_ofBell_55 : decode cX8_ofBell 55 = .ok (.ireturn, 1) := by decide +kernel
theorem dX8_ofBell_56 : decode cX8_ofBell 56 = .ok (.aload_n 0, 1) := by decide +kernel
theorem dX8_ofBell_57 : decode cX8_ofBell 57 = .ok (.getfield 21, 3) := by decide +kernel
theorem dX8_ofBell_60 : decode cX8_ofBell 60 = .ok (.getfield 154, 3) := by decide +kernel
theorem dX8_ofBell_63 : decode cX8_ofBell 63 = .ok (.iload_n 1, 1) := by decide +kernel
theorem dX8_ofBell_64 : decode cX8_ofBell 64 = .ok (.iaload, 1) := by decide +kernel
theorem dX8_ofBell_65 : decode cX8_ofBell 65 = .ok (.ireturn, 1) := by decide +kernel
theorem dX8_ofBell_66 : decode cX8_ofBell 66 = .ok (.bipush (-2), 2) := by decide +kernel
theorem dX8_ofBell_68 : decode cX8_ofBell 68 = .ok (.ireturn, 1) := by decide +kernel
theorem dX8_loud_0 : decode cX8_loud 0 = .ok (.aload_n 0, 1) := by decide +kernel
theorem dX8_loud_1 : decode cX8_loud 1 = .ok (.iload_n 1, 1) := by decide +kernel
theorem dX8_loud_2 : decode cX8_loud 2 = .ok (.invokevirtual 145, 3) := by decide +kernel
theorem dX8_loud_5 : decode cX8_loud 5 = .ok (.ifCond .eq 26, 3) := by decide +kernel
theorem dX8_loud_8 : decode cX8_loud 8 = .ok (.aload_n 0, 1) := by decide +kernel
theorem dX8_loud_9 : decode cX8_loud 9 = .ok (.iload_n 2, 1) := by decide +kernel
theorem dX8_loud_10 : decode cX8_loud 10 = .ok (.invokevirtual 110, 3) := by decide +kernel
theorem dX8_loud_13 : decode cX8_loud 13 = .ok (.ifCond .eq 18, 3) := by decide +kernel
theorem dX8_loud_16 : decode cX8_loud 16 = .ok (.iload_n 3, 1) := by decide +kernel
theorem dX8_loud_17 : decode cX8_loud 17 = .ok (.invokestatic 157, 3) := by decide +kernel
theorem dX8_loud_20 : decode cX8_loud 20 = .ok (.ifCond .eq 11, 3) := by decide +kernel
theorem dX8_loud_23 : decode cX8_loud 23 = .ok (.iload 4, 2) := by decide +kernel
theorem dX8_loud_25 : decode cX8_loud 25 = .ok (.invokestatic 160, 3) := by decide +kernel
theorem dX8_loud_28 : decode cX8_loud 28 = .ok (.ifCond .ne 7, 3) := by decide +kernel
theorem dX8_loud_31 : decode cX8_loud 31 = .ok (.ldc2_w 163, 3) := by decide +kernel
theorem dX8_loud_34 : decode cX8_loud 34 = .ok (.lreturn, 1) := by decide +kernel
theorem dX8_loud_35 : decode cX8_loud 35 = .ok (.aload_n 0, 1) := by decide +kernel
theorem dX8_loud_36 : decode cX8_loud 36 = .ok (.getfield 21, 3) := by decide +kernel
theorem dX8_loud_39 : decode cX8_loud 39 = .ok (.getfield 154, 3) := by decide +kernel
theorem dX8_loud_42 : decode cX8_loud 42 = .ok (.iload_n 1, 1) := by decide +kernel
theorem dX8_loud_43 : decode cX8_loud 43 = .ok (.iaload, 1) := by decide +kernel
theorem dX8_loud_44 : decode cX8_loud 44 = .ok (.i2l, 1) := by decide +kernel
theorem dX8_loud_45 : decode cX8_loud 45 = .ok (.aload_n 0, 1) := by decide +kernel
theorem dX8_loud_46 : decode cX8_loud 46 = .ok (.getfield 30, 3) := by decide +kernel
theorem dX8_loud_49 : decode cX8_loud 49 = .ok (.iload_n 1, 1) := by decide +kernel
theorem dX8_loud_50 : decode cX8_loud 50 = .ok (.iload_n 2, 1) := by decide +kernel
theorem dX8_loud_51 : decode cX8_loud 51 = .ok (.iload_n 3, 1) := by decide +kernel
theorem dX8_loud_52 : decode cX8_loud 52 = .ok (.invokevirtual 165, 3) := by decide +kernel
theorem dX8_loud_55 : decode cX8_loud 55 = .ok (.lmul, 1) := by decide +kernel
theorem dX8_loud_56 : decode cX8_loud 56 = .ok (.iload_n 3, 1) := by decide +kernel
theorem dX8_loud_57 : decode cX8_loud 57 = .ok (.invokestatic 169, 3) := by decide +kernel
theorem dX8_loud_60 : decode cX8_loud 60 = .ok (.iload 4, 2) := by decide +kernel
theorem dX8_loud_62 : decode cX8_loud 62 = .ok (.invokestatic 173, 3) := by decide +kernel
theorem dX8_loud_65 : decode cX8_loud 65 = .ok (.lreturn, 1) := by decide +kernel
theorem dX8_whose_0 : decode cX8_whose 0 = .ok (.aload_n 0, 1) := by decide +kernel
theorem dX8_whose_1 : decode cX8_whose 1 = .ok (.iload_n 1, 1) := by decide +kernel
theorem dX8_whose_2 : decode cX8_whose 2 = .ok (.invokevirtual 110, 3) := by decide +kernel
theorem dX8_whose_5 : decode cX8_whose 5 = .ok (.ifCond .ne 5, 3) := by decide +kernel
theorem dX8_whose_8 : decode cX8_whose 8 = .ok (.iconst (-1), 1) := by decide +kernel
theorem dX8_whose_9 : decode cX8_whose 9 = .ok (.ireturn, 1) := by decide +kernel
theorem dX8_whose_10 : decode cX8_whose 10 = .ok (.iload_n 2, 1) := by decide +kernel
theorem dX8_whose_11 : decode cX8_whose 11 = .ok (.invokestatic 157, 3) := by decide +kernel
theorem dX8_whose_14 : decode cX8_whose 14 = .ok (.ifCond .ne 6, 3) := by decide +kernel
theorem dX8_whose_17 : decode cX8_whose 17 = .ok (.bipush (-2), 2) := by decide +kernel
theorem dX8_whose_19 : decode cX8_whose 19 = .ok (.ireturn, 1) := by decide +kernel
theorem dX8_whose_20 : decode cX8_whose 20 = .ok (.aload_n 0, 1) := by decide +kernel
theorem dX8_whose_21 : decode cX8_whose 21 = .ok (.getfield 30, 3) := by decide +kernel
theorem dX8_whose_24 : decode cX8_whose 24 = .ok (.iload_n 2, 1) := by decide +kernel
theorem dX8_whose_25 : decode cX8_whose 25 = .ok (.invokevirtual 177, 3) := by decide +kernel
theorem dX8_whose_28 : decode cX8_whose 28 = .ok (.aload_n 0, 1) := by decide +kernel
theorem dX8_whose_29 : decode cX8_whose 29 = .ok (.getfield 30, 3) := by decide +kernel
theorem dX8_whose_32 : decode cX8_whose 32 = .ok (.iload_n 1, 1) := by decide +kernel
theorem dX8_whose_33 : decode cX8_whose 33 = .ok (.invokevirtual 180, 3) := by decide +kernel
theorem dX8_whose_36 : decode cX8_whose 36 = .ok (.istore_n 3, 1) := by decide +kernel
theorem dX8_whose_37 : decode cX8_whose 37 = .ok (.iconst 0, 1) := by decide +kernel
theorem dX8_whose_38 : decode cX8_whose 38 = .ok (.istore 4, 2) := by decide +kernel
theorem dX8_whose_40 : decode cX8_whose 40 = .ok (.iload 4, 2) := by decide +kernel
theorem dX8_whose_42 : decode cX8_whose 42 = .ok (.aload_n 0, 1) := by decide +kernel
theorem dX8_whose_43 : decode cX8_whose 43 = .ok (.getfield 21, 3) := by decide +kernel
theorem dX8_whose_46 : decode cX8_whose 46 = .ok (.getfield 100, 3) := by decide +kernel
theorem dX8_whose_49 : decode cX8_whose 49 = .ok (.if_icmp .ge 20, 3) := by decide +kernel
theorem dX8_whose_52 : decode cX8_whose 52 = .ok (.iload_n 3, 1) := by decide +kernel
theorem dX8_whose_53 : decode cX8_whose 53 = .ok (.iconst 1, 1) := by decide +kernel
theorem dX8_whose_54 : decode cX8_whose 54 = .ok (.iload 4, 2) := by decide +kernel
theorem dX8_whose_56 : decode cX8_whose 56 = .ok (.ishl, 1) := by decide +kernel
theorem dX8_whose_57 : decode cX8_whose 57 = .ok (.if_icmp .ne 6, 3) := by decide +kernel
theorem dX8_whose_60 : decode cX8_whose 60 = .ok (.iload 4, 2) := by decide +kernel
theorem dX8_whose_62 : decode cX8_whose 62 = .ok (.ireturn, 1) := by decide +kernel
theorem dX8_whose_63 : decode cX8_whose 63 = .ok (.iinc 4 1, 3) := by decide +kernel
theorem dX8_whose_66 : decode cX8_whose 66 = .ok (.goto (-26), 3) := by decide +kernel
theorem dX8_whose_69 : decode cX8_whose 69 = .ok (.iload_n 3, 1) := by decide +kernel
theorem dX8_whose_70 : decode cX8_whose 70 = .ok (.ifCond .ne 8, 3) := by decide +kernel
theorem dX8_whose_73 : decode cX8_whose 73 = .ok (.bipush (-6), 2) := by decide +kernel
theorem dX8_whose_75 : decode cX8_whose 75 = .ok (.goto 5, 3) := by decide +kernel
theorem dX8_whose_78 : decode cX8_whose 78 = .ok (.bipush (-5), 2) := by decide +kernel
theorem dX8_whose_80 : decode cX8_whose 80 = .ok (.ireturn, 1) := by decide +kernel
theorem dX8_reach_0 : decode cX8_reach 0 = .ok (.aload_n 0, 1) := by decide +kernel
theorem dX8_reach_1 : decode cX8_reach 1 = .ok (.iload_n 1, 1) := by decide +kernel
theorem dX8_reach_2 : decode cX8_reach 2 = .ok (.invokevirtual 145, 3) := by decide +kernel
theorem dX8_reach_5 : decode cX8_reach 5 = .ok (.ifCond .ne 5, 3) := by decide +kernel
theorem dX8_reach_8 : decode cX8_reach 8 = .ok (.iconst (-1), 1) := by decide +kernel
theorem dX8_reach_9 : decode cX8_reach 9 = .ok (.ireturn, 1) := by decide +kernel
theorem dX8_reach_10 : decode cX8_reach 10 = .ok (.iload_n 2, 1) := by decide +kernel
theorem dX8_reach_11 : decode cX8_reach 11 = .ok (.invokestatic 157, 3) := by decide +kernel
theorem dX8_reach_14 : decode cX8_reach 14 = .ok (.ifCond .ne 6, 3) := by decide +kernel
theorem dX8_reach_17 : decode cX8_reach 17 = .ok (.bipush (-2), 2) := by decide +kernel
theorem dX8_reach_19 : decode cX8_reach 19 = .ok (.ireturn, 1) := by decide +kernel
theorem dX8_reach_20 : decode cX8_reach 20 = .ok (.aload_n 0, 1) := by decide +kernel
theorem dX8_reach_21 : decode cX8_reach 21 = .ok (.getfield 30, 3) := by decide +kernel
theorem dX8_reach_24 : decode cX8_reach 24 = .ok (.iload_n 2, 1) := by decide +kernel
theorem dX8_reach_25 : decode cX8_reach 25 = .ok (.invokevirtual 177, 3) := by decide +kernel
theorem dX8_reach_28 : decode cX8_reach 28 = .ok (.iconst 0, 1) := by decide +kernel
theorem dX8_reach_29 : decode cX8_reach 29 = .ok (.istore_n 3, 1) := by decide +kernel
theorem dX8_reach_30 : decode cX8_reach 30 = .ok (.iconst 0, 1) := by decide +kernel
theorem dX8_reach_31 : decode cX8_reach 31 = .ok (.istore 4, 2) := by decide +kernel
theorem dX8_reach_33 : decode cX8_reach 33 = .ok (.iload 4, 2) := by decide +kernel
theorem dX8_reach_35 : decode cX8_reach 35 = .ok (.aload_n 0, 1) := by decide +kernel
theorem dX8_reach_36 : decode cX8_reach 36 = .ok (.getfield 14, 3) := by decide +kernel
theorem dX8_reach_39 : decode cX8_reach 39 = .ok (.getfield 107, 3) := by decide +kernel
theorem dX8_reach_42 : decode cX8_reach 42 = .ok (.if_icmp .ge 28, 3) := by decide +kernel
theorem dX8_reach_45 : decode cX8_reach 45 = .ok (.iload_n 3, 1) := by decide +kernel
theorem dX8_reach_46 : decode cX8_reach 46 = .ok (.aload_n 0, 1) := by decide +kernel
theorem dX8_reach_47 : decode cX8_reach 47 = .ok (.getfield 30, 3) := by decide +kernel
theorem dX8_reach_50 : decode cX8_reach 50 = .ok (.iload 4, 2) := by decide +kernel
theorem dX8_reach_52 : decode cX8_reach 52 = .ok (.invokevirtual 180, 3) := by decide +kernel
theorem dX8_reach_55 : decode cX8_reach 55 = .ok (.iload_n 1, 1) := by decide +kernel
theorem dX8_reach_56 : decode cX8_reach 56 = .ok (.ishr, 1) := by decide +kernel
theorem dX8_reach_57 : decode cX8_reach 57 = .ok (.iconst 1, 1) := by decide +kernel
theorem dX8_reach_58 : decode cX8_reach 58 = .ok (.iand, 1) := by decide +kernel
theorem dX8_reach_59 : decode cX8_reach 59 = .ok (.iload 4, 2) := by decide +kernel
theorem dX8_reach_61 : decode cX8_reach 61 = .ok (.ishl, 1) := by decide +kernel
theorem dX8_reach_62 : decode cX8_reach 62 = .ok (.ior, 1) := by decide +kernel
theorem dX8_reach_63 : decode cX8_reach 63 = .ok (.istore_n 3, 1) := by decide +kernel
theorem dX8_reach_64 : decode cX8_reach 64 = .ok (.iinc 4 1, 3) := by decide +kernel
theorem dX8_reach_67 : decode cX8_reach 67 = .ok (.goto (-34), 3) := by decide +kernel
theorem dX8_reach_70 : decode cX8_reach 70 = .ok (.iload_n 3, 1) := by decide +kernel
theorem dX8_reach_71 : decode cX8_reach 71 = .ok (.ireturn, 1) := by decide +kernel
theorem dX8_tithes_0 : decode cX8_tithes 0 = .ok (.aload_n 0, 1) := by decide +kernel
theorem dX8_tithes_1 : decode cX8_tithes 1 = .ok (.iconst 0, 1) := by decide +kernel
theorem dX8_tithes_2 : decode cX8_tithes 2 = .ok (.putfield 73, 3) := by decide +kernel
theorem dX8_tithes_5 : decode cX8_tithes 5 = .ok (.aload_n 0, 1) := by decide +kernel
theorem dX8_tithes_6 : decode cX8_tithes 6 = .ok (.iload_n 1, 1) := by decide +kernel
theorem dX8_tithes_7 : decode cX8_tithes 7 = .ok (.invokevirtual 145, 3) := by decide +kernel
theorem dX8_tithes_10 : decode cX8_tithes 10 = .ok (.ifCond .eq 17, 3) := by decide +kernel
theorem dX8_tithes_13 : decode cX8_tithes 13 = .ok (.iload_n 2, 1) := by decide +kernel
theorem dX8_tithes_14 : decode cX8_tithes 14 = .ok (.invokestatic 77, 3) := by decide +kernel
theorem dX8_tithes_17 : decode cX8_tithes 17 = .ok (.ifCond .eq 10, 3) := by decide +kernel
theorem dX8_tithes_20 : decode cX8_tithes 20 = .ok (.iload_n 3, 1) := by decide +kernel
theorem dX8_tithes_21 : decode cX8_tithes 21 = .ok (.invokestatic 81, 3) := by decide +kernel
theorem dX8_tithes_24 : decode cX8_tithes 24 = .ok (.ifCond .ne 7, 3) := by decide +kernel
theorem dX8_tithes_27 : decode cX8_tithes 27 = .ok (.ldc2_w 163, 3) := by decide +kernel
theorem dX8_tithes_30 : decode cX8_tithes 30 = .ok (.lreturn, 1) := by decide +kernel
theorem dX8_tithes_31 : decode cX8_tithes 31 = .ok (.aload_n 0, 1) := by decide +kernel
theorem dX8_tithes_32 : decode cX8_tithes 32 = .ok (.getfield 68, 3) := by decide +kernel
theorem dX8_tithes_35 : decode cX8_tithes 35 = .ok (.iload_n 2, 1) := by decide +kernel
theorem dX8_tithes_36 : decode cX8_tithes 36 = .ok (.aaload, 1) := by decide +kernel
theorem dX8_tithes_37 : decode cX8_tithes 37 = .ok (.astore 7, 2) := by decide +kernel
theorem dX8_tithes_39 : decode cX8_tithes 39 = .ok (.aload_n 0, 1) := by decide +kernel
theorem dX8_tithes_40 : decode cX8_tithes 40 = .ok (.aload 7, 2) := by decide +kernel
theorem dX8_tithes_42 : decode cX8_tithes 42 = .ok (.iload_n 3, 1) := by decide +kernel
theorem dX8_tithes_43 : decode cX8_tithes 43 = .ok (.iload 4, 2) := by decide +kernel
theorem dX8_tithes_45 : decode cX8_tithes 45 = .ok (.iload 5, 2) := by decide +kernel
theorem dX8_tithes_47 : decode cX8_tithes 47 = .ok (.invokevirtual 84, 3) := by decide +kernel
theorem dX8_tithes_50 : decode cX8_tithes 50 = .ok (.putfield 73, 3) := by decide +kernel
theorem dX8_tithes_53 : decode cX8_tithes 53 = .ok (.aload_n 0, 1) := by decide +kernel
theorem dX8_tithes_54 : decode cX8_tithes 54 = .ok (.getfield 73, 3) := by decide +kernel
theorem dX8_tithes_57 : decode cX8_tithes 57 = .ok (.ifCond .ne 11, 3) := by decide +kernel
theorem dX8_tithes_60 : decode cX8_tithes 60 = .ok (.iload 6, 2) := by decide +kernel
theorem dX8_tithes_62 : decode cX8_tithes 62 = .ok (.invokestatic 160, 3) := by decide +kernel
theorem dX8_tithes_65 : decode cX8_tithes 65 = .ok (.ifCond .ne 7, 3) := by decide +kernel
theorem dX8_tithes_68 : decode cX8_tithes 68 = .ok (.ldc2_w 163, 3) := by decide +kernel
theorem dX8_tithes_71 : decode cX8_tithes 71 = .ok (.lreturn, 1) := by decide +kernel
theorem dX8_tithes_72 : decode cX8_tithes 72 = .ok (.iload 4, 2) := by decide +kernel
theorem dX8_tithes_74 : decode cX8_tithes 74 = .ok (.istore 8, 2) := by decide +kernel
theorem dX8_tithes_76 : decode cX8_tithes 76 = .ok (.iload 8, 2) := by decide +kernel
theorem dX8_tithes_78 : decode cX8_tithes 78 = .ok (.iload 4, 2) := by decide +kernel
theorem dX8_tithes_80 : decode cX8_tithes 80 = .ok (.iload 5, 2) := by decide +kernel
theorem dX8_tithes_82 : decode cX8_tithes 82 = .ok (.iadd, 1) := by decide +kernel
theorem dX8_tithes_83 : decode cX8_tithes 83 = .ok (.if_icmp .ge 27, 3) := by decide +kernel
theorem dX8_tithes_86 : decode cX8_tithes 86 = .ok (.aload 7, 2) := by decide +kernel
theorem dX8_tithes_88 : decode cX8_tithes 88 = .ok (.getfield 88, 3) := by decide +kernel
theorem dX8_tithes_91 : decode cX8_tithes 91 = .ok (.iload 8, 2) := by decide +kernel
theorem dX8_tithes_93 : decode cX8_tithes 93 = .ok (.iaload, 1) := by decide +kernel
theorem dX8_tithes_94 : decode cX8_tithes 94 = .ok (.invokestatic 157, 3) := by decide +kernel
theorem dX8_tithes_97 : decode cX8_tithes 97 = .ok (.ifCond .ne 7, 3) := by decide +kernel
theorem dX8_tithes_100 : decode cX8_tithes 100 = .ok (.ldc2_w 163, 3) := by decide +kernel
theorem dX8_tithes_103 : decode cX8_tithes 103 = .ok (.lreturn, 1) := by decide +kernel
theorem dX8_tithes_104 : decode cX8_tithes 104 = .ok (.iinc 8 1, 3) := by decide +kernel
theorem dX8_tithes_107 : decode cX8_tithes 107 = .ok (.goto (-31), 3) := by decide +kernel
theorem dX8_tithes_110 : decode cX8_tithes 110 = .ok (.lconst 0, 1) := by decide +kernel
theorem dX8_tithes_111 : decode cX8_tithes 111 = .ok (.lstore 8, 2) := by decide +kernel
theorem dX8_tithes_113 : decode cX8_tithes 113 = .ok (.iload 4, 2) := by decide +kernel
theorem dX8_tithes_115 : decode cX8_tithes 115 = .ok (.istore 10, 2) := by decide +kernel
theorem dX8_tithes_117 : decode cX8_tithes 117 = .ok (.iload 10, 2) := by decide +kernel
theorem dX8_tithes_119 : decode cX8_tithes 119 = .ok (.iload 4, 2) := by decide +kernel
theorem dX8_tithes_121 : decode cX8_tithes 121 = .ok (.iload 5, 2) := by decide +kernel
theorem dX8_tithes_123 : decode cX8_tithes 123 = .ok (.iadd, 1) := by decide +kernel
theorem dX8_tithes_124 : decode cX8_tithes 124 = .ok (.if_icmp .ge 35, 3) := by decide +kernel
theorem dX8_tithes_127 : decode cX8_tithes 127 = .ok (.aload_n 0, 1) := by decide +kernel
theorem dX8_tithes_128 : decode cX8_tithes 128 = .ok (.getfield 30, 3) := by decide +kernel
theorem dX8_tithes_131 : decode cX8_tithes 131 = .ok (.aload 7, 2) := by decide +kernel
theorem dX8_tithes_133 : decode cX8_tithes 133 = .ok (.getfield 88, 3) := by decide +kernel
theorem dX8_tithes_136 : decode cX8_tithes 136 = .ok (.iload 10, 2) := by decide +kernel
theorem dX8_tithes_138 : decode cX8_tithes 138 = .ok (.iaload, 1) := by decide +kernel
theorem dX8_tithes_139 : decode cX8_tithes 139 = .ok (.invokevirtual 177, 3) := by decide +kernel
theorem dX8_tithes_142 : decode cX8_tithes 142 = .ok (.lload 8, 2) := by decide +kernel
theorem dX8_tithes_144 : decode cX8_tithes 144 = .ok (.aload_n 0, 1) := by decide +kernel
theorem dX8_tithes_145 : decode cX8_tithes 145 = .ok (.iload_n 1, 1) := by decide +kernel
theorem dX8_tithes_146 : decode cX8_tithes 146 = .ok (.invokevirtual 183, 3) := by decide +kernel
theorem dX8_tithes_149 : decode cX8_tithes 149 = .ok (.i2l, 1) := by decide +kernel
theorem dX8_tithes_150 : decode cX8_tithes 150 = .ok (.ladd, 1) := by decide +kernel
theorem dX8_tithes_151 : decode cX8_tithes 151 = .ok (.lstore 8, 2) := by decide +kernel
theorem dX8_tithes_153 : decode cX8_tithes 153 = .ok (.iinc 10 1, 3) := by decide +kernel
theorem dX8_tithes_156 : decode cX8_tithes 156 = .ok (.goto (-39), 3) := by decide +kernel
theorem dX8_tithes_159 : decode cX8_tithes 159 = .ok (.lload 8, 2) := by decide +kernel
theorem dX8_tithes_161 : decode cX8_tithes 161 = .ok (.ldc2_w 186, 3) := by decide +kernel
theorem dX8_tithes_164 : decode cX8_tithes 164 = .ok (.iload 6, 2) := by decide +kernel
theorem dX8_tithes_166 : decode cX8_tithes 166 = .ok (.invokestatic 173, 3) := by decide +kernel
theorem dX8_tithes_169 : decode cX8_tithes 169 = .ok (.lreturn, 1) := by decide +kernel
theorem dX8_wins_0 : decode cX8_wins 0 = .ok (.aload_n 0, 1) := by decide +kernel
theorem dX8_wins_1 : decode cX8_wins 1 = .ok (.iload_n 1, 1) := by decide +kernel
theorem dX8_wins_2 : decode cX8_wins 2 = .ok (.invokevirtual 145, 3) := by decide +kernel
theorem dX8_wins_5 : decode cX8_wins 5 = .ok (.ifCond .eq 11, 3) := by decide +kernel
theorem dX8_wins_8 : decode cX8_wins 8 = .ok (.aload_n 0, 1) := by decide +kernel
theorem dX8_wins_9 : decode cX8_wins 9 = .ok (.iload_n 2, 1) := by decide +kernel
theorem dX8_wins_10 : decode cX8_wins 10 = .ok (.invokevirtual 110, 3) := by decide +kernel
theorem dX8_wins_13 : decode cX8_wins 13 = .ok (.ifCond .ne 5, 3) := by decide +kernel
theorem dX8_wins_16 : decode cX8_wins 16 = .ok (.iconst (-1), 1) := by decide +kernel
theorem dX8_wins_17 : decode cX8_wins 17 = .ok (.ireturn, 1) := by decide +kernel
theorem dX8_wins_18 : decode cX8_wins 18 = .ok (.iload_n 3, 1) := by decide +kernel
theorem dX8_wins_19 : decode cX8_wins 19 = .ok (.invokestatic 157, 3) := by decide +kernel
theorem dX8_wins_22 : decode cX8_wins 22 = .ok (.ifCond .ne 6, 3) := by decide +kernel
theorem dX8_wins_25 : decode cX8_wins 25 = .ok (.bipush (-2), 2) := by decide +kernel
theorem dX8_wins_27 : decode cX8_wins 27 = .ok (.ireturn, 1) := by decide +kernel
theorem dX8_wins_28 : decode cX8_wins 28 = .ok (.aload_n 0, 1) := by decide +kernel
theorem dX8_wins_29 : decode cX8_wins 29 = .ok (.getfield 30, 3) := by decide +kernel
theorem dX8_wins_32 : decode cX8_wins 32 = .ok (.iload_n 3, 1) := by decide +kernel
theorem dX8_wins_33 : decode cX8_wins 33 = .ok (.invokevirtual 177, 3) := by decide +kernel
theorem dX8_wins_36 : decode cX8_wins 36 = .ok (.aload_n 0, 1) := by decide +kernel
theorem dX8_wins_37 : decode cX8_wins 37 = .ok (.getfield 30, 3) := by decide +kernel
theorem dX8_wins_40 : decode cX8_wins 40 = .ok (.iload_n 1, 1) := by decide +kernel
theorem dX8_wins_41 : decode cX8_wins 41 = .ok (.iload_n 2, 1) := by decide +kernel
theorem dX8_wins_42 : decode cX8_wins 42 = .ok (.invokevirtual 188, 3) := by decide +kernel
theorem dX8_wins_45 : decode cX8_wins 45 = .ok (.ireturn, 1) := by decide +kernel
theorem dX8_cheapest_0 : decode cX8_cheapest 0 = .ok (.aload_n 0, 1) := by decide +kernel
theorem dX8_cheapest_1 : decode cX8_cheapest 1 = .ok (.iload_n 1, 1) := by decide +kernel
theorem dX8_cheapest_2 : decode cX8_cheapest 2 = .ok (.invokevirtual 110, 3) := by decide +kernel
theorem dX8_cheapest_5 : decode cX8_cheapest 5 = .ok (.ifCond .ne 5, 3) := by decide +kernel
theorem dX8_cheapest_8 : decode cX8_cheapest 8 = .ok (.iconst (-1), 1) := by decide +kernel
theorem dX8_cheapest_9 : decode cX8_cheapest 9 = .ok (.ireturn, 1) := by decide +kernel
theorem dX8_cheapest_10 : decode cX8_cheapest 10 = .ok (.iload_n 2, 1) := by decide +kernel
theorem dX8_cheapest_11 : decode cX8_cheapest 11 = .ok (.invokestatic 157, 3) := by decide +kernel
theorem dX8_cheapest_14 : decode cX8_cheapest 14 = .ok (.ifCond .eq 10, 3) := by decide +kernel
theorem dX8_cheapest_17 : decode cX8_cheapest 17 = .ok (.iload_n 3, 1) := by decide +kernel
theorem dX8_cheapest_18 : decode cX8_cheapest 18 = .ok (.invokestatic 160, 3) := by decide +kernel
theorem dX8_cheapest_21 : decode cX8_cheapest 21 = .ok (.ifCond .ne 6, 3) := by decide +kernel
theorem dX8_cheapest_24 : decode cX8_cheapest 24 = .ok (.bipush (-2), 2) := by decide +kernel
theorem dX8_cheapest_26 : decode cX8_cheapest 26 = .ok (.ireturn, 1) := by decide +kernel
theorem dX8_cheapest_27 : decode cX8_cheapest 27 = .ok (.aload_n 0, 1) := by decide +kernel
theorem dX8_cheapest_28 : decode cX8_cheapest 28 = .ok (.getfield 30, 3) := by decide +kernel
theorem dX8_cheapest_31 : decode cX8_cheapest 31 = .ok (.iload_n 2, 1) := by decide +kernel
theorem dX8_cheapest_32 : decode cX8_cheapest 32 = .ok (.invokevirtual 177, 3) := by decide +kernel
theorem dX8_cheapest_35 : decode cX8_cheapest 35 = .ok (.bipush (-9), 2) := by decide +kernel
theorem dX8_cheapest_37 : decode cX8_cheapest 37 = .ok (.istore 4, 2) := by decide +kernel
theorem dX8_cheapest_39 : decode cX8_cheapest 39 = .ok (.bipush (-9), 2) := by decide +kernel
theorem dX8_cheapest_41 : decode cX8_cheapest 41 = .ok (.istore 5, 2) := by decide +kernel
theorem dX8_cheapest_43 : decode cX8_cheapest 43 = .ok (.iconst 0, 1) := by decide +kernel
theorem dX8_cheapest_44 : decode cX8_cheapest 44 = .ok (.istore 6, 2) := by decide +kernel
theorem dX8_cheapest_46 : decode cX8_cheapest 46 = .ok (.iload 6, 2) := by decide +kernel
theorem dX8_cheapest_48 : decode cX8_cheapest 48 = .ok (.aload_n 0, 1) := by decide +kernel
theorem dX8_cheapest_49 : decode cX8_cheapest 49 = .ok (.getfield 21, 3) := by decide +kernel
theorem dX8_cheapest_52 : decode cX8_cheapest 52 = .ok (.getfield 100, 3) := by decide +kernel
theorem dX8_cheapest_55 : decode cX8_cheapest 55 = .ok (.if_icmp .ge 69, 3) := by decide +kernel
theorem dX8_cheapest_58 : decode cX8_cheapest 58 = .ok (.aload_n 0, 1) := by decide +kernel
theorem dX8_cheapest_59 : decode cX8_cheapest 59 = .ok (.getfield 30, 3) := by decide +kernel
theorem dX8_cheapest_62 : decode cX8_cheapest 62 = .ok (.iload 6, 2) := by decide +kernel
theorem dX8_cheapest_64 : decode cX8_cheapest 64 = .ok (.iload_n 1, 1) := by decide +kernel
theorem dX8_cheapest_65 : decode cX8_cheapest 65 = .ok (.invokevirtual 188, 3) := by decide +kernel
theorem dX8_cheapest_68 : decode cX8_cheapest 68 = .ok (.istore 7, 2) := by decide +kernel
theorem dX8_cheapest_70 : decode cX8_cheapest 70 = .ok (.iconst 0, 1) := by decide +kernel
theorem dX8_cheapest_71 : decode cX8_cheapest 71 = .ok (.iload 7, 2) := by decide +kernel
theorem dX8_cheapest_73 : decode cX8_cheapest 73 = .ok (.aload_n 0, 1) := by decide +kernel
theorem dX8_cheapest_74 : decode cX8_cheapest 74 = .ok (.getfield 21, 3) := by decide +kernel
theorem dX8_cheapest_77 : decode cX8_cheapest 77 = .ok (.getfield 154, 3) := by decide +kernel
theorem dX8_cheapest_80 : decode cX8_cheapest 80 = .ok (.iload 6, 2) := by decide +kernel
theorem dX8_cheapest_82 : decode cX8_cheapest 82 = .ok (.iaload, 1) := by decide +kernel
theorem dX8_cheapest_83 : decode cX8_cheapest 83 = .ok (.isub, 1) := by decide +kernel
theorem dX8_cheapest_84 : decode cX8_cheapest 84 = .ok (.invokestatic 192, 3) := by decide +kernel
theorem dX8_cheapest_87 : decode cX8_cheapest 87 = .ok (.istore 8, 2) := by decide +kernel
theorem dX8_cheapest_89 : decode cX8_cheapest 89 = .ok (.iload 7, 2) := by decide +kernel
theorem dX8_cheapest_91 : decode cX8_cheapest 91 = .ok (.bipush (-9), 2) := by decide +kernel
theorem dX8_cheapest_93 : decode cX8_cheapest 93 = .ok (.if_icmp .eq 25, 3) := by decide +kernel
theorem dX8_cheapest_96 : decode cX8_cheapest 96 = .ok (.iload 4, 2) := by decide +kernel
theorem dX8_cheapest_98 : decode cX8_cheapest 98 = .ok (.bipush (-9), 2) := by decide +kernel
theorem dX8_cheapest_100 : decode cX8_cheapest 100 = .ok (.if_icmp .eq 10, 3) := by decide +kernel
theorem dX8_cheapest_103 : decode cX8_cheapest 103 = .ok (.iload 8, 2) := by decide +kernel
theorem dX8_cheapest_105 : decode cX8_cheapest 105 = .ok (.iload 5, 2) := by decide +kernel
theorem dX8_cheapest_107 : decode cX8_cheapest 107 = .ok (.if_icmp .ge 11, 3) := by decide +kernel
theorem dX8_cheapest_110 : decode cX8_cheapest 110 = .ok (.iload 6, 2) := by decide +kernel
theorem dX8_cheapest_112 : decode cX8_cheapest 112 = .ok (.istore 4, 2) := by decide +kernel
theorem dX8_cheapest_114 : decode cX8_cheapest 114 = .ok (.iload 8, 2) := by decide +kernel
theorem dX8_cheapest_116 : decode cX8_cheapest 116 = .ok (.istore 5, 2) := by decide +kernel
theorem dX8_cheapest_118 : decode cX8_cheapest 118 = .ok (.iinc 6 1, 3) := by decide +kernel
theorem dX8_cheapest_121 : decode cX8_cheapest 121 = .ok (.goto (-75), 3) := by decide +kernel
theorem dX8_cheapest_124 : decode cX8_cheapest 124 = .ok (.iload_n 3, 1) := by decide +kernel
theorem dX8_cheapest_125 : decode cX8_cheapest 125 = .ok (.ifCond .ne 8, 3) := by decide +kernel
theorem dX8_cheapest_128 : decode cX8_cheapest 128 = .ok (.iload 4, 2) := by decide +kernel
theorem dX8_cheapest_130 : decode cX8_cheapest 130 = .ok (.goto 5, 3) := by decide +kernel
theorem dX8_cheapest_133 : decode cX8_cheapest 133 = .ok (.iload 5, 2) := by decide +kernel
theorem dX8_cheapest_135 : decode cX8_cheapest 135 = .ok (.ireturn, 1) := by decide +kernel
theorem dX8_sheet_0 : decode cX8_sheet 0 = .ok (.aload_n 0, 1) := by decide +kernel
theorem dX8_sheet_1 : decode cX8_sheet 1 = .ok (.iconst 0, 1) := by decide +kernel
theorem dX8_sheet_2 : decode cX8_sheet 2 = .ok (.putfield 73, 3) := by decide +kernel
theorem dX8_sheet_5 : decode cX8_sheet 5 = .ok (.iload_n 1, 1) := by decide +kernel
theorem dX8_sheet_6 : decode cX8_sheet 6 = .ok (.invokestatic 77, 3) := by decide +kernel
theorem dX8_sheet_9 : decode cX8_sheet 9 = .ok (.ifCond .ne 5, 3) := by decide +kernel
theorem dX8_sheet_12 : decode cX8_sheet 12 = .ok (.iconst (-1), 1) := by decide +kernel
theorem dX8_sheet_13 : decode cX8_sheet 13 = .ok (.ireturn, 1) := by decide +kernel
theorem dX8_sheet_14 : decode cX8_sheet 14 = .ok (.iload_n 2, 1) := by decide +kernel
theorem dX8_sheet_15 : decode cX8_sheet 15 = .ok (.invokestatic 81, 3) := by decide +kernel
theorem dX8_sheet_18 : decode cX8_sheet 18 = .ok (.ifCond .eq 9, 3) := by decide +kernel
theorem dX8_sheet_21 : decode cX8_sheet 21 = .ok (.iload_n 3, 1) := by decide +kernel
theorem dX8_sheet_22 : decode cX8_sheet 22 = .ok (.bipush 60, 2) := by decide +kernel
theorem dX8_sheet_24 : decode cX8_sheet 24 = .ok (.if_icmp .le 6, 3) := by decide +kernel
theorem dX8_sheet_27 : decode cX8_sheet 27 = .ok (.bipush (-2), 2) := by decide +kernel
theorem dX8_sheet_29 : decode cX8_sheet 29 = .ok (.ireturn, 1) := by decide +kernel
theorem dX8_sheet_30 : decode cX8_sheet 30 = .ok (.iload_n 3, 1) := by decide +kernel
theorem dX8_sheet_31 : decode cX8_sheet 31 = .ok (.ifCond .ge 9, 3) := by decide +kernel
theorem dX8_sheet_34 : decode cX8_sheet 34 = .ok (.aload_n 0, 1) := by decide +kernel
theorem dX8_sheet_35 : decode cX8_sheet 35 = .ok (.iconst 4, 1) := by decide +kernel
theorem dX8_sheet_36 : decode cX8_sheet 36 = .ok (.invokevirtual 250, 3) := by decide +kernel
theorem dX8_sheet_39 : decode cX8_sheet 39 = .ok (.ireturn, 1) := by decide +kernel
theorem dX8_sheet_40 : decode cX8_sheet 40 = .ok (.aload_n 0, 1) := by decide +kernel
theorem dX8_sheet_41 : decode cX8_sheet 41 = .ok (.getfield 68, 3) := by decide +kernel
theorem dX8_sheet_44 : decode cX8_sheet 44 = .ok (.iload_n 1, 1) := by decide +kernel
theorem dX8_sheet_45 : decode cX8_sheet 45 = .ok (.aaload, 1) := by decide +kernel
theorem dX8_sheet_46 : decode cX8_sheet 46 = .ok (.iload_n 2, 1) := by decide +kernel
theorem dX8_sheet_47 : decode cX8_sheet 47 = .ok (.iload_n 3, 1) := by decide +kernel
theorem dX8_sheet_48 : decode cX8_sheet 48 = .ok (.invokevirtual 253, 3) := by decide +kernel
theorem dX8_sheet_51 : decode cX8_sheet 51 = .ok (.iconst 1, 1) := by decide +kernel
theorem dX8_sheet_52 : decode cX8_sheet 52 = .ok (.ireturn, 1) := by decide +kernel
theorem dX8_put_0 : decode cX8_put 0 = .ok (.aload_n 0, 1) := by decide +kernel
theorem dX8_put_1 : decode cX8_put 1 = .ok (.iconst 0, 1) := by decide +kernel
theorem dX8_put_2 : decode cX8_put 2 = .ok (.putfield 73, 3) := by decide +kernel
theorem dX8_put_5 : decode cX8_put 5 = .ok (.iload_n 1, 1) := by decide +kernel
theorem dX8_put_6 : decode cX8_put 6 = .ok (.invokestatic 77, 3) := by decide +kernel
theorem dX8_put_9 : decode cX8_put 9 = .ok (.ifCond .ne 5, 3) := by decide +kernel
theorem dX8_put_12 : decode cX8_put 12 = .ok (.iconst (-1), 1) := by decide +kernel
theorem dX8_put_13 : decode cX8_put 13 = .ok (.ireturn, 1) := by decide +kernel
theorem dX8_put_14 : decode cX8_put 14 = .ok (.aload_n 0, 1) := by decide +kernel
theorem dX8_put_15 : decode cX8_put 15 = .ok (.getfield 68, 3) := by decide +kernel
theorem dX8_put_18 : decode cX8_put 18 = .ok (.iload_n 1, 1) := by decide +kernel
theorem dX8_put_19 : decode cX8_put 19 = .ok (.aaload, 1) := by decide +kernel
theorem dX8_put_20 : decode cX8_put 20 = .ok (.astore 4, 2) := by decide +kernel
theorem dX8_put_22 : decode cX8_put 22 = .ok (.aload 4, 2) := by decide +kernel
theorem dX8_put_24 : decode cX8_put 24 = .ok (.getfield 257, 3) := by decide +kernel
theorem dX8_put_27 : decode cX8_put 27 = .ok (.ifCond .ne 9, 3) := by decide +kernel
theorem dX8_put_30 : decode cX8_put 30 = .ok (.aload_n 0, 1) := by decide +kernel
theorem dX8_put_31 : decode cX8_put 31 = .ok (.iconst 1, 1) := by decide +kernel
theorem dX8_put_32 : decode cX8_put 32 = .ok (.invokevirtual 250, 3) := by decide +kernel
theorem dX8_put_35 : decode cX8_put 35 = .ok (.ireturn, 1) := by decide +kernel
theorem dX8_put_36 : decode cX8_put 36 = .ok (.aload 4, 2) := by decide +kernel
theorem dX8_put_38 : decode cX8_put 38 = .ok (.iload_n 2, 1) := by decide +kernel
theorem dX8_put_39 : decode cX8_put 39 = .ok (.invokevirtual 261, 3) := by decide +kernel
theorem dX8_put_42 : decode cX8_put 42 = .ok (.ifCond .ne 9, 3) := by decide +kernel
theorem dX8_put_45 : decode cX8_put 45 = .ok (.aload_n 0, 1) := by decide +kernel
theorem dX8_put_46 : decode cX8_put 46 = .ok (.iconst 3, 1) := by decide +kernel
theorem dX8_put_47 : decode cX8_put 47 = .ok (.invokevirtual 250, 3) := by decide +kernel
theorem dX8_put_50 : decode cX8_put 50 = .ok (.ireturn, 1) := by decide +kernel
theorem dX8_put_51 : decode cX8_put 51 = .ok (.aload 4, 2) := by decide +kernel
theorem dX8_put_53 : decode cX8_put 53 = .ok (.getfield 88, 3) := by decide +kernel
theorem dX8_put_56 : decode cX8_put 56 = .ok (.iload_n 2, 1) := by decide +kernel
theorem dX8_put_57 : decode cX8_put 57 = .ok (.aload 4, 2) := by decide +kernel
theorem dX8_put_59 : decode cX8_put 59 = .ok (.iload_n 3, 1) := by decide +kernel
theorem dX8_put_60 : decode cX8_put 60 = .ok (.invokevirtual 264, 3) := by decide +kernel
theorem dX8_put_63 : decode cX8_put 63 = .ok (.iastore, 1) := by decide +kernel
theorem dX8_put_64 : decode cX8_put 64 = .ok (.iconst 1, 1) := by decide +kernel
theorem dX8_put_65 : decode cX8_put 65 = .ok (.ireturn, 1) := by decide +kernel
theorem dX8_fault_0 : decode cX8_fault 0 = .ok (.aload_n 0, 1) := by decide +kernel
theorem dX8_fault_1 : decode cX8_fault 1 = .ok (.getfield 73, 3) := by decide +kernel
theorem dX8_fault_4 : decode cX8_fault 4 = .ok (.ireturn, 1) := by decide +kernel
theorem dX8_isCell_0 : decode cX8_isCell 0 = .ok (.iload_n 1, 1) := by decide +kernel
theorem dX8_isCell_1 : decode cX8_isCell 1 = .ok (.ifCond .lt 18, 3) := by decide +kernel
theorem dX8_isCell_4 : decode cX8_isCell 4 = .ok (.iload_n 1, 1) := by decide +kernel
theorem dX8_isCell_5 : decode cX8_isCell 5 = .ok (.aload_n 0, 1) := by decide +kernel
theorem dX8_isCell_6 : decode cX8_isCell 6 = .ok (.getfield 14, 3) := by decide +kernel
theorem dX8_isCell_9 : decode cX8_isCell 9 = .ok (.getfield 107, 3) := by decide +kernel
theorem dX8_isCell_12 : decode cX8_isCell 12 = .ok (.if_icmp .ge 7, 3) := by decide +kernel
theorem dX8_isCell_15 : decode cX8_isCell 15 = .ok (.iconst 1, 1) := by decide +kernel
theorem dX8_isCell_16 : decode cX8_isCell 16 = .ok (.goto 4, 3) := by decide +kernel
theorem dX8_isCell_19 : decode cX8_isCell 19 = .ok (.iconst 0, 1) := by decide +kernel
theorem dX8_isCell_20 : decode cX8_isCell 20 = .ok (.ireturn, 1) := by decide +kernel
theorem dX8_isBell_0 : decode cX8_isBell 0 = .ok (.iload_n 1, 1) := by decide +kernel
theorem dX8_isBell_1 : decode cX8_isBell 1 = .ok (.ifCond .lt 18, 3) := by decide +kernel
theorem dX8_isBell_4 : decode cX8_isBell 4 = .ok (.iload_n 1, 1) := by decide +kernel
theorem dX8_isBell_5 : decode cX8_isBell 5 = .ok (.aload_n 0, 1) := by decide +kernel
theorem dX8_isBell_6 : decode cX8_isBell 6 = .ok (.getfield 21, 3) := by decide +kernel
theorem dX8_isBell_9 : decode cX8_isBell 9 = .ok (.getfield 100, 3) := by decide +kernel
theorem dX8_isBell_12 : decode cX8_isBell 12 = .ok (.if_icmp .ge 7, 3) := by decide +kernel
theorem dX8_isBell_15 : decode cX8_isBell 15 = .ok (.iconst 1, 1) := by decide +kernel
theorem dX8_isBell_16 : decode cX8_isBell 16 = .ok (.goto 4, 3) := by decide +kernel
theorem dX8_isBell_19 : decode cX8_isBell 19 = .ok (.iconst 0, 1) := by decide +kernel
theorem dX8_isBell_20 : decode cX8_isBell 20 = .ok (.ireturn, 1) := by decide +kernel
theorem dX8_isSheet_0 : decode cX8_isSheet 0 = .ok (.iload_n 0, 1) := by decide +kernel
theorem dX8_isSheet_1 : decode cX8_isSheet 1 = .ok (.ifCond .lt 12, 3) := by decide +kernel
theorem dX8_isSheet_4 : decode cX8_isSheet 4 = .ok (.iload_n 0, 1) := by decide +kernel
theorem dX8_isSheet_5 : decode cX8_isSheet 5 = .ok (.iconst 4, 1) := by decide +kernel
theorem dX8_isSheet_6 : decode cX8_isSheet 6 = .ok (.if_icmp .ge 7, 3) := by decide +kernel
theorem dX8_isSheet_9 : decode cX8_isSheet 9 = .ok (.iconst 1, 1) := by decide +kernel
theorem dX8_isSheet_10 : decode cX8_isSheet 10 = .ok (.goto 4, 3) := by decide +kernel
theorem dX8_isSheet_13 : decode cX8_isSheet 13 = .ok (.iconst 0, 1) := by decide +kernel
theorem dX8_isSheet_14 : decode cX8_isSheet 14 = .ok (.ireturn, 1) := by decide +kernel
theorem dX8_isSort_0 : decode cX8_isSort 0 = .ok (.iload_n 0, 1) := by decide +kernel
theorem dX8_isSort_1 : decode cX8_isSort 1 = .ok (.ifCond .lt 12, 3) := by decide +kernel
theorem dX8_isSort_4 : decode cX8_isSort 4 = .ok (.iload_n 0, 1) := by decide +kernel
theorem dX8_isSort_5 : decode cX8_isSort 5 = .ok (.iconst 2, 1) := by decide +kernel
theorem dX8_isSort_6 : decode cX8_isSort 6 = .ok (.if_icmp .gt 7, 3) := by decide +kernel
theorem dX8_isSort_9 : decode cX8_isSort 9 = .ok (.iconst 1, 1) := by decide +kernel
theorem dX8_isSort_10 : decode cX8_isSort 10 = .ok (.goto 4, 3) := by decide +kernel
theorem dX8_isSort_13 : decode cX8_isSort 13 = .ok (.iconst 0, 1) := by decide +kernel
theorem dX8_isSort_14 : decode cX8_isSort 14 = .ok (.ireturn, 1) := by decide +kernel
theorem dX8_isKind_0 : decode cX8_isKind 0 = .ok (.iload_n 0, 1) := by decide +kernel
theorem dX8_isKind_1 : decode cX8_isKind 1 = .ok (.ifCond .lt 12, 3) := by decide +kernel
theorem dX8_isKind_4 : decode cX8_isKind 4 = .ok (.iload_n 0, 1) := by decide +kernel
theorem dX8_isKind_5 : decode cX8_isKind 5 = .ok (.iconst 2, 1) := by decide +kernel
theorem dX8_isKind_6 : decode cX8_isKind 6 = .ok (.if_icmp .gt 7, 3) := by decide +kernel
theorem dX8_isKind_9 : decode cX8_isKind 9 = .ok (.iconst 1, 1) := by decide +kernel
theorem dX8_isKind_10 : decode cX8_isKind 10 = .ok (.goto 4, 3) := by decide +kernel
theorem dX8_isKind_13 : decode cX8_isKind 13 = .ok (.iconst 0, 1) := by decide +kernel
theorem dX8_isKind_14 : decode cX8_isKind 14 = .ok (.ireturn, 1) := by decide +kernel
theorem dX8_isWeight_0 : decode cX8_isWeight 0 = .ok (.iload_n 0, 1) := by decide +kernel
theorem dX8_isWeight_1 : decode cX8_isWeight 1 = .ok (.iconst 1, 1) := by decide +kernel
theorem dX8_isWeight_2 : decode cX8_isWeight 2 = .ok (.if_icmp .lt 13, 3) := by decide +kernel
theorem dX8_isWeight_5 : decode cX8_isWeight 5 = .ok (.iload_n 0, 1) := by decide +kernel
theorem dX8_isWeight_6 : decode cX8_isWeight 6 = .ok (.bipush 99, 2) := by decide +kernel
theorem dX8_isWeight_8 : decode cX8_isWeight 8 = .ok (.if_icmp .gt 7, 3) := by decide +kernel
theorem dX8_isWeight_11 : decode cX8_isWeight 11 = .ok (.iconst 1, 1) := by decide +kernel
theorem dX8_isWeight_12 : decode cX8_isWeight 12 = .ok (.goto 4, 3) := by decide +kernel
theorem dX8_isWeight_15 : decode cX8_isWeight 15 = .ok (.iconst 0, 1) := by decide +kernel
theorem dX8_isWeight_16 : decode cX8_isWeight 16 = .ok (.ireturn, 1) := by decide +kernel
theorem dX8_isWind_0 : decode cX8_isWind 0 = .ok (.iload_n 0, 1) := by decide +kernel
theorem dX8_isWind_1 : decode cX8_isWind 1 = .ok (.ifCond .lt 13, 3) := by decide +kernel
theorem dX8_isWind_4 : decode cX8_isWind 4 = .ok (.iload_n 0, 1) := by decide +kernel
theorem dX8_isWind_5 : decode cX8_isWind 5 = .ok (.bipush 39, 2) := by decide +kernel
theorem dX8_isWind_7 : decode cX8_isWind 7 = .ok (.if_icmp .gt 7, 3) := by decide +kernel
theorem dX8_isWind_10 : decode cX8_isWind 10 = .ok (.iconst 1, 1) := by decide +kernel
theorem dX8_isWind_11 : decode cX8_isWind 11 = .ok (.goto 4, 3) := by decide +kernel
theorem dX8_isWind_14 : decode cX8_isWind 14 = .ok (.iconst 0, 1) := by decide +kernel
theorem dX8_isWind_15 : decode cX8_isWind 15 = .ok (.ireturn, 1) := by decide +kernel
theorem dX8_isOneOfTwo_0 : decode cX8_isOneOfTwo 0 = .ok (.iload_n 0, 1) := by decide +kernel
theorem dX8_isOneOfTwo_1 : decode cX8_isOneOfTwo 1 = .ok (.ifCond .eq 8, 3) := by decide +kernel
theorem dX8_isOneOfTwo_4 : decode cX8_isOneOfTwo 4 = .ok (.iload_n 0, 1) := by decide +kernel
theorem dX8_isOneOfTwo_5 : decode cX8_isOneOfTwo 5 = .ok (.iconst 1, 1) := by decide +kernel
theorem dX8_isOneOfTwo_6 : decode cX8_isOneOfTwo 6 = .ok (.if_icmp .ne 7, 3) := by decide +kernel
theorem dX8_isOneOfTwo_9 : decode cX8_isOneOfTwo 9 = .ok (.iconst 1, 1) := by decide +kernel
theorem dX8_isOneOfTwo_10 : decode cX8_isOneOfTwo 10 = .ok (.goto 4, 3) := by decide +kernel
theorem dX8_isOneOfTwo_13 : decode cX8_isOneOfTwo 13 = .ok (.iconst 0, 1) := by decide +kernel
theorem dX8_isOneOfTwo_14 : decode cX8_isOneOfTwo 14 = .ok (.ireturn, 1) := by decide +kernel
theorem dX8_faulty_0 : decode cX8_faulty 0 = .ok (.aload_n 0, 1) := by decide +kernel
theorem dX8_faulty_1 : decode cX8_faulty 1 = .ok (.iload_n 1, 1) := by decide +kernel
theorem dX8_faulty_2 : decode cX8_faulty 2 = .ok (.putfield 73, 3) := by decide +kernel
theorem dX8_faulty_5 : decode cX8_faulty 5 = .ok (.bipush (-10), 2) := by decide +kernel
theorem dX8_faulty_7 : decode cX8_faulty 7 = .ok (.iload_n 1, 1) := by decide +kernel
theorem dX8_faulty_8 : decode cX8_faulty 8 = .ok (.isub, 1) := by decide +kernel
theorem dX8_faulty_9 : decode cX8_faulty 9 = .ok (.ireturn, 1) := by decide +kernel
theorem dX8_share_0 : decode cX8_share 0 = .ok (.lload_n 0, 1) := by decide +kernel
theorem dX8_share_1 : decode cX8_share 1 = .ok (.lload_n 2, 1) := by decide +kernel
theorem dX8_share_2 : decode cX8_share 2 = .ok (.invokestatic 306, 3) := by decide +kernel
theorem dX8_share_5 : decode cX8_share 5 = .ok (.lstore 5, 2) := by decide +kernel
theorem dX8_share_7 : decode cX8_share 7 = .ok (.iload 4, 2) := by decide +kernel
theorem dX8_share_9 : decode cX8_share 9 = .ok (.ifCond .ne 7, 3) := by decide +kernel
theorem dX8_share_12 : decode cX8_share 12 = .ok (.lload_n 0, 1) := by decide +kernel
theorem dX8_share_13 : decode cX8_share 13 = .ok (.goto 4, 3) := by decide +kernel
theorem dX8_share_16 : decode cX8_share 16 = .ok (.lload_n 2, 1) := by decide +kernel
theorem dX8_share_17 : decode cX8_share 17 = .ok (.lload 5, 2) := by decide +kernel
theorem dX8_share_19 : decode cX8_share 19 = .ok (.ldiv, 1) := by decide +kernel
theorem dX8_share_20 : decode cX8_share 20 = .ok (.lreturn, 1) := by decide +kernel
theorem dX8_greatestCommon_0 : decode cX8_greatestCommon 0 = .ok (.lload_n 0, 1) := by decide +kernel
theorem dX8_greatestCommon_1 : decode cX8_greatestCommon 1 = .ok (.lstore 4, 2) := by decide +kernel
theorem dX8_greatestCommon_3 : decode cX8_greatestCommon 3 = .ok (.lload_n 2, 1) := by decide +kernel
theorem dX8_greatestCommon_4 : decode cX8_greatestCommon 4 = .ok (.lstore 6, 2) := by decide +kernel
theorem dX8_greatestCommon_6 : decode cX8_greatestCommon 6 = .ok (.iconst 0, 1) := by decide +kernel
theorem dX8_greatestCommon_7 : decode cX8_greatestCommon 7 = .ok (.istore 8, 2) := by decide +kernel
theorem dX8_greatestCommon_9 : decode cX8_greatestCommon 9 = .ok (.iload 8, 2) := by decide +kernel
theorem dX8_greatestCommon_11 : decode cX8_greatestCommon 11 = .ok (.bipush 100, 2) := by decide +kernel
theorem dX8_greatestCommon_13 : decode cX8_greatestCommon 13 = .ok (.if_icmp .ge 31, 3) := by decide +kernel
theorem dX8_greatestCommon_16 : decode cX8_greatestCommon 16 = .ok (.lload 6, 2) := by decide +kernel
theorem dX8_greatestCommon_18 : decode cX8_greatestCommon 18 = .ok (.lconst 0, 1) := by decide +kernel
theorem dX8_greatestCommon_19 : decode cX8_greatestCommon 19 = .ok (.lcmp, 1) := by decide +kernel
theorem dX8_greatestCommon_20 : decode cX8_greatestCommon 20 = .ok (.ifCond .eq 24, 3) := by decide +kernel
theorem dX8_greatestCommon_23 : decode cX8_greatestCommon 23 = .ok (.lload 4, 2) := by decide +kernel
theorem dX8_greatestCommon_25 : decode cX8_greatestCommon 25 = .ok (.lload 6, 2) := by decide +kernel
theorem dX8_greatestCommon_27 : decode cX8_greatestCommon 27 = .ok (.lrem, 1) := by decide +kernel
theorem dX8_greatestCommon_28 : decode cX8_greatestCommon 28 = .ok (.lstore 9, 2) := by decide +kernel
theorem dX8_greatestCommon_30 : decode cX8_greatestCommon 30 = .ok (.lload 6, 2) := by decide +kernel
theorem dX8_greatestCommon_32 : decode cX8_greatestCommon 32 = .ok (.lstore 4, 2) := by decide +kernel
theorem dX8_greatestCommon_34 : decode cX8_greatestCommon 34 = .ok (.lload 9, 2) := by decide +kernel
theorem dX8_greatestCommon_36 : decode cX8_greatestCommon 36 = .ok (.lstore 6, 2) := by decide +kernel
theorem dX8_greatestCommon_38 : decode cX8_greatestCommon 38 = .ok (.iinc 8 1, 3) := by decide +kernel
theorem dX8_greatestCommon_41 : decode cX8_greatestCommon 41 = .ok (.goto (-32), 3) := by decide +kernel
theorem dX8_greatestCommon_44 : decode cX8_greatestCommon 44 = .ok (.lconst 1, 1) := by decide +kernel
theorem dX8_greatestCommon_45 : decode cX8_greatestCommon 45 = .ok (.lload 4, 2) := by decide +kernel
theorem dX8_greatestCommon_47 : decode cX8_greatestCommon 47 = .ok (.invokestatic 310, 3) := by decide +kernel
theorem dX8_greatestCommon_50 : decode cX8_greatestCommon 50 = .ok (.lreturn, 1) := by decide +kernel
theorem dX8_partsOfTithe_0 : decode cX8_partsOfTithe 0 = .ok (.iconst 0, 1) := by decide +kernel
theorem dX8_partsOfTithe_1 : decode cX8_partsOfTithe 1 = .ok (.istore_n 2, 1) := by decide +kernel
theorem dX8_partsOfTithe_2 : decode cX8_partsOfTithe 2 = .ok (.iconst 0, 1) := by decide +kernel
theorem dX8_partsOfTithe_3 : decode cX8_partsOfTithe 3 = .ok (.istore_n 3, 1) := by decide +kernel
theorem dX8_partsOfTithe_4 : decode cX8_partsOfTithe 4 = .ok (.iload_n 3, 1) := by decide +kernel
theorem dX8_partsOfTithe_5 : decode cX8_partsOfTithe 5 = .ok (.aload_n 0, 1) := by decide +kernel
theorem dX8_partsOfTithe_6 : decode cX8_partsOfTithe 6 = .ok (.getfield 14, 3) := by decide +kernel
theorem dX8_partsOfTithe_9 : decode cX8_partsOfTithe 9 = .ok (.getfield 107, 3) := by decide +kernel
theorem dX8_partsOfTithe_12 : decode cX8_partsOfTithe 12 = .ok (.if_icmp .ge 49, 3) := by decide +kernel
theorem dX8_partsOfTithe_15 : decode cX8_partsOfTithe 15 = .ok (.aload_n 0, 1) := by decide +kernel
theorem dX8_partsOfTithe_16 : decode cX8_partsOfTithe 16 = .ok (.getfield 30, 3) := by decide +kernel
theorem dX8_partsOfTithe_19 : decode cX8_partsOfTithe 19 = .ok (.iload_n 3, 1) := by decide +kernel
theorem dX8_partsOfTithe_20 : decode cX8_partsOfTithe 20 = .ok (.invokevirtual 180, 3) := by decide +kernel
theorem dX8_partsOfTithe_23 : decode cX8_partsOfTithe 23 = .ok (.istore 4, 2) := by decide +kernel
theorem dX8_partsOfTithe_25 : decode cX8_partsOfTithe 25 = .ok (.iload 4, 2) := by decide +kernel
theorem dX8_partsOfTithe_27 : decode cX8_partsOfTithe 27 = .ok (.iload_n 1, 1) := by decide +kernel
theorem dX8_partsOfTithe_28 : decode cX8_partsOfTithe 28 = .ok (.ishr, 1) := by decide +kernel
theorem dX8_partsOfTithe_29 : decode cX8_partsOfTithe 29 = .ok (.iconst 1, 1) := by decide +kernel
theorem dX8_partsOfTithe_30 : decode cX8_partsOfTithe 30 = .ok (.iand, 1) := by decide +kernel
theorem dX8_partsOfTithe_31 : decode cX8_partsOfTithe 31 = .ok (.iconst 1, 1) := by decide +kernel
theorem dX8_partsOfTithe_32 : decode cX8_partsOfTithe 32 = .ok (.if_icmp .ne 23, 3) := by decide +kernel
theorem dX8_partsOfTithe_35 : decode cX8_partsOfTithe 35 = .ok (.iload_n 2, 1) := by decide +kernel
theorem dX8_partsOfTithe_36 : decode cX8_partsOfTithe 36 = .ok (.aload_n 0, 1) := by decide +kernel
theorem dX8_partsOfTithe_37 : decode cX8_partsOfTithe 37 = .ok (.getfield 14, 3) := by decide +kernel
theorem dX8_partsOfTithe_40 : decode cX8_partsOfTithe 40 = .ok (.iload_n 3, 1) := by decide +kernel
theorem dX8_partsOfTithe_41 : decode cX8_partsOfTithe 41 = .ok (.invokevirtual 116, 3) := by decide +kernel
theorem dX8_partsOfTithe_44 : decode cX8_partsOfTithe 44 = .ok (.bipush 60, 2) := by decide +kernel
theorem dX8_partsOfTithe_46 : decode cX8_partsOfTithe 46 = .ok (.imul, 1) := by decide +kernel
theorem dX8_partsOfTithe_47 : decode cX8_partsOfTithe 47 = .ok (.iload 4, 2) := by decide +kernel
theorem dX8_partsOfTithe_49 : decode cX8_partsOfTithe 49 = .ok (.invokestatic 222, 3) := by decide +kernel
theorem dX8_partsOfTithe_52 : decode cX8_partsOfTithe 52 = .ok (.idiv, 1) := by decide +kernel
theorem dX8_partsOfTithe_53 : decode cX8_partsOfTithe 53 = .ok (.iadd, 1) := by decide +kernel
theorem dX8_partsOfTithe_54 : decode cX8_partsOfTithe 54 = .ok (.istore_n 2, 1) := by decide +kernel
theorem dX8_partsOfTithe_55 : decode cX8_partsOfTithe 55 = .ok (.iinc 3 1, 3) := by decide +kernel
theorem dX8_partsOfTithe_58 : decode cX8_partsOfTithe 58 = .ok (.goto (-54), 3) := by decide +kernel
theorem dX8_partsOfTithe_61 : decode cX8_partsOfTithe 61 = .ok (.iload_n 2, 1) := by decide +kernel
theorem dX8_partsOfTithe_62 : decode cX8_partsOfTithe 62 = .ok (.ireturn, 1) := by decide +kernel
theorem dJ6_bitCount_0f7a4_0 : decode cJ6_bitCount_0f7a4 0 = .ok (.iload_n 0, 1) := by decide +kernel
theorem dJ6_bitCount_0f7a4_1 : decode cJ6_bitCount_0f7a4 1 = .ok (.iload_n 0, 1) := by decide +kernel
theorem dJ6_bitCount_0f7a4_2 : decode cJ6_bitCount_0f7a4 2 = .ok (.iconst 1, 1) := by decide +kernel
theorem dJ6_bitCount_0f7a4_3 : decode cJ6_bitCount_0f7a4 3 = .ok (.iushr, 1) := by decide +kernel
theorem dJ6_bitCount_0f7a4_4 : decode cJ6_bitCount_0f7a4 4 = .ok (.ldc_w 265, 3) := by decide +kernel
theorem dJ6_bitCount_0f7a4_7 : decode cJ6_bitCount_0f7a4 7 = .ok (.iand, 1) := by decide +kernel
theorem dJ6_bitCount_0f7a4_8 : decode cJ6_bitCount_0f7a4 8 = .ok (.isub, 1) := by decide +kernel
theorem dJ6_bitCount_0f7a4_9 : decode cJ6_bitCount_0f7a4 9 = .ok (.istore_n 0, 1) := by decide +kernel
theorem dJ6_bitCount_0f7a4_10 : decode cJ6_bitCount_0f7a4 10 = .ok (.iload_n 0, 1) := by decide +kernel
theorem dJ6_bitCount_0f7a4_11 : decode cJ6_bitCount_0f7a4 11 = .ok (.ldc_w 266, 3) := by decide +kernel
theorem dJ6_bitCount_0f7a4_14 : decode cJ6_bitCount_0f7a4 14 = .ok (.iand, 1) := by decide +kernel
theorem dJ6_bitCount_0f7a4_15 : decode cJ6_bitCount_0f7a4 15 = .ok (.iload_n 0, 1) := by decide +kernel
theorem dJ6_bitCount_0f7a4_16 : decode cJ6_bitCount_0f7a4 16 = .ok (.iconst 2, 1) := by decide +kernel
theorem dJ6_bitCount_0f7a4_17 : decode cJ6_bitCount_0f7a4 17 = .ok (.iushr, 1) := by decide +kernel
theorem dJ6_bitCount_0f7a4_18 : decode cJ6_bitCount_0f7a4 18 = .ok (.ldc_w 266, 3) := by decide +kernel
theorem dJ6_bitCount_0f7a4_21 : decode cJ6_bitCount_0f7a4 21 = .ok (.iand, 1) := by decide +kernel
theorem dJ6_bitCount_0f7a4_22 : decode cJ6_bitCount_0f7a4 22 = .ok (.iadd, 1) := by decide +kernel
theorem dJ6_bitCount_0f7a4_23 : decode cJ6_bitCount_0f7a4 23 = .ok (.istore_n 0, 1) := by decide +kernel
theorem dJ6_bitCount_0f7a4_24 : decode cJ6_bitCount_0f7a4 24 = .ok (.iload_n 0, 1) := by decide +kernel
theorem dJ6_bitCount_0f7a4_25 : decode cJ6_bitCount_0f7a4 25 = .ok (.iload_n 0, 1) := by decide +kernel
theorem dJ6_bitCount_0f7a4_26 : decode cJ6_bitCount_0f7a4 26 = .ok (.iconst 4, 1) := by decide +kernel
theorem dJ6_bitCount_0f7a4_27 : decode cJ6_bitCount_0f7a4 27 = .ok (.iushr, 1) := by decide +kernel
theorem dJ6_bitCount_0f7a4_28 : decode cJ6_bitCount_0f7a4 28 = .ok (.iadd, 1) := by decide +kernel
theorem dJ6_bitCount_0f7a4_29 : decode cJ6_bitCount_0f7a4 29 = .ok (.ldc_w 267, 3) := by decide +kernel
theorem dJ6_bitCount_0f7a4_32 : decode cJ6_bitCount_0f7a4 32 = .ok (.iand, 1) := by decide +kernel
theorem dJ6_bitCount_0f7a4_33 : decode cJ6_bitCount_0f7a4 33 = .ok (.istore_n 0, 1) := by decide +kernel
theorem dJ6_bitCount_0f7a4_34 : decode cJ6_bitCount_0f7a4 34 = .ok (.iload_n 0, 1) := by decide +kernel
theorem dJ6_bitCount_0f7a4_35 : decode cJ6_bitCount_0f7a4 35 = .ok (.iload_n 0, 1) := by decide +kernel
theorem dJ6_bitCount_0f7a4_36 : decode cJ6_bitCount_0f7a4 36 = .ok (.bipush 8, 2) := by decide +kernel
theorem dJ6_bitCount_0f7a4_38 : decode cJ6_bitCount_0f7a4 38 = .ok (.iushr, 1) := by decide +kernel
theorem dJ6_bitCount_0f7a4_39 : decode cJ6_bitCount_0f7a4 39 = .ok (.iadd, 1) := by decide +kernel
theorem dJ6_bitCount_0f7a4_40 : decode cJ6_bitCount_0f7a4 40 = .ok (.istore_n 0, 1) := by decide +kernel
theorem dJ6_bitCount_0f7a4_41 : decode cJ6_bitCount_0f7a4 41 = .ok (.iload_n 0, 1) := by decide +kernel
theorem dJ6_bitCount_0f7a4_42 : decode cJ6_bitCount_0f7a4 42 = .ok (.iload_n 0, 1) := by decide +kernel
theorem dJ6_bitCount_0f7a4_43 : decode cJ6_bitCount_0f7a4 43 = .ok (.bipush 16, 2) := by decide +kernel
theorem dJ6_bitCount_0f7a4_45 : decode cJ6_bitCount_0f7a4 45 = .ok (.iushr, 1) := by decide +kernel
theorem dJ6_bitCount_0f7a4_46 : decode cJ6_bitCount_0f7a4 46 = .ok (.iadd, 1) := by decide +kernel
theorem dJ6_bitCount_0f7a4_47 : decode cJ6_bitCount_0f7a4 47 = .ok (.istore_n 0, 1) := by decide +kernel
theorem dJ6_bitCount_0f7a4_48 : decode cJ6_bitCount_0f7a4 48 = .ok (.iload_n 0, 1) := by decide +kernel
theorem dJ6_bitCount_0f7a4_49 : decode cJ6_bitCount_0f7a4 49 = .ok (.bipush 63, 2) := by decide +kernel
theorem dJ6_bitCount_0f7a4_51 : decode cJ6_bitCount_0f7a4 51 = .ok (.iand, 1) := by decide +kernel
theorem dJ6_bitCount_0f7a4_52 : decode cJ6_bitCount_0f7a4 52 = .ok (.ireturn, 1) := by decide +kernel
theorem dJ9_abs_0f7a4_0 : decode cJ9_abs_0f7a4 0 = .ok (.iload_n 0, 1) := by decide +kernel
theorem dJ9_abs_0f7a4_1 : decode cJ9_abs_0f7a4 1 = .ok (.ifCond .ge 8, 3) := by decide +kernel
theorem dJ9_abs_0f7a4_4 : decode cJ9_abs_0f7a4 4 = .ok (.iload_n 0, 1) := by decide +kernel
theorem dJ9_abs_0f7a4_5 : decode cJ9_abs_0f7a4 5 = .ok (.ineg, 1) := by decide +kernel
theorem dJ9_abs_0f7a4_6 : decode cJ9_abs_0f7a4 6 = .ok (.goto 4, 3) := by decide +kernel
theorem dJ9_abs_0f7a4_9 : decode cJ9_abs_0f7a4 9 = .ok (.iload_n 0, 1) := by decide +kernel
theorem dJ9_abs_0f7a4_10 : decode cJ9_abs_0f7a4 10 = .ok (.ireturn, 1) := by decide +kernel
theorem dJ9_max_7cf53_0 : decode cJ9_max_7cf53 0 = .ok (.iload_n 0, 1) := by decide +kernel
theorem dJ9_max_7cf53_1 : decode cJ9_max_7cf53 1 = .ok (.iload_n 1, 1) := by decide +kernel
theorem dJ9_max_7cf53_2 : decode cJ9_max_7cf53 2 = .ok (.if_icmp .lt 7, 3) := by decide +kernel
theorem dJ9_max_7cf53_5 : decode cJ9_max_7cf53 5 = .ok (.iload_n 0, 1) := by decide +kernel
theorem dJ9_max_7cf53_6 : decode cJ9_max_7cf53 6 = .ok (.goto 4, 3) := by decide +kernel
theorem dJ9_max_7cf53_9 : decode cJ9_max_7cf53 9 = .ok (.iload_n 1, 1) := by decide +kernel
theorem dJ9_max_7cf53_10 : decode cJ9_max_7cf53 10 = .ok (.ireturn, 1) := by decide +kernel
theorem dJ9_max_f86c9_0 : decode cJ9_max_f86c9 0 = .ok (.lload_n 0, 1) := by decide +kernel
theorem dJ9_max_f86c9_1 : decode cJ9_max_f86c9 1 = .ok (.lload_n 2, 1) := by decide +kernel
theorem dJ9_max_f86c9_2 : decode cJ9_max_f86c9 2 = .ok (.lcmp, 1) := by decide +kernel
theorem dJ9_max_f86c9_3 : decode cJ9_max_f86c9 3 = .ok (.ifCond .lt 7, 3) := by decide +kernel
theorem dJ9_max_f86c9_6 : decode cJ9_max_f86c9 6 = .ok (.lload_n 0, 1) := by decide +kernel
theorem dJ9_max_f86c9_7 : decode cJ9_max_f86c9 7 = .ok (.goto 4, 3) := by decide +kernel
theorem dJ9_max_f86c9_10 : decode cJ9_max_f86c9 10 = .ok (.lload_n 2, 1) := by decide +kernel
theorem dJ9_max_f86c9_11 : decode cJ9_max_f86c9 11 = .ok (.lreturn, 1) := by decide +kernel
theorem dJ7_fill_53178_0 : decode cJ7_fill_53178 0 = .ok (.iconst 0, 1) := by decide +kernel
theorem dJ7_fill_53178_1 : decode cJ7_fill_53178 1 = .ok (.istore_n 2, 1) := by decide +kernel
theorem dJ7_fill_53178_2 : decode cJ7_fill_53178 2 = .ok (.aload_n 0, 1) := by decide +kernel
theorem dJ7_fill_53178_3 : decode cJ7_fill_53178 3 = .ok (.arraylength, 1) := by decide +kernel
theorem dJ7_fill_53178_4 : decode cJ7_fill_53178 4 = .ok (.istore_n 3, 1) := by decide +kernel
theorem dJ7_fill_53178_5 : decode cJ7_fill_53178 5 = .ok (.iload_n 2, 1) := by decide +kernel
theorem dJ7_fill_53178_6 : decode cJ7_fill_53178 6 = .ok (.iload_n 3, 1) := by decide +kernel
theorem dJ7_fill_53178_7 : decode cJ7_fill_53178 7 = .ok (.if_icmp .ge 13, 3) := by decide +kernel
theorem dJ7_fill_53178_10 : decode cJ7_fill_53178 10 = .ok (.aload_n 0, 1) := by decide +kernel
theorem dJ7_fill_53178_11 : decode cJ7_fill_53178 11 = .ok (.iload_n 2, 1) := by decide +kernel
theorem dJ7_fill_53178_12 : decode cJ7_fill_53178 12 = .ok (.iload_n 1, 1) := by decide +kernel
theorem dJ7_fill_53178_13 : decode cJ7_fill_53178 13 = .ok (.iastore, 1) := by decide +kernel
theorem dJ7_fill_53178_14 : decode cJ7_fill_53178 14 = .ok (.iinc 2 1, 3) := by decide +kernel
theorem dJ7_fill_53178_17 : decode cJ7_fill_53178 17 = .ok (.goto (-12), 3) := by decide +kernel
theorem dJ7_fill_53178_20 : decode cJ7_fill_53178 20 = .ok (.return_, 1) := by decide +kernel
theorem dL_cell_0 : decode cL_cell 0 = .ok (.iload_n 1, 1) := by decide +kernel
theorem dL_cell_1 : decode cL_cell 1 = .ok (.aload_n 0, 1) := by decide +kernel
theorem dL_cell_2 : decode cL_cell 2 = .ok (.arraylength, 1) := by decide +kernel
theorem dL_cell_3 : decode cL_cell 3 = .ok (.if_icmp .ge 9, 3) := by decide +kernel
theorem dL_cell_6 : decode cL_cell 6 = .ok (.aload_n 0, 1) := by decide +kernel
theorem dL_cell_7 : decode cL_cell 7 = .ok (.iload_n 1, 1) := by decide +kernel
theorem dL_cell_8 : decode cL_cell 8 = .ok (.iaload, 1) := by decide +kernel
theorem dL_cell_9 : decode cL_cell 9 = .ok (.goto 9, 3) := by decide +kernel
theorem dL_cell_12 : decode cL_cell 12 = .ok (.ldc 7, 2) := by decide +kernel
theorem dL_cell_14 : decode cL_cell 14 = .ok (.iload_n 1, 1) := by decide +kernel
theorem dL_cell_15 : decode cL_cell 15 = .ok (.iconst 1, 1) := by decide +kernel
theorem dL_cell_16 : decode cL_cell 16 = .ok (.iadd, 1) := by decide +kernel
theorem dL_cell_17 : decode cL_cell 17 = .ok (.imul, 1) := by decide +kernel
theorem dL_cell_18 : decode cL_cell 18 = .ok (.ireturn, 1) := by decide +kernel
theorem dL_some_0 : decode cL_some 0 = .ok (.iload_n 0, 1) := by decide +kernel
theorem dL_some_1 : decode cL_some 1 = .ok (.ldc 8, 2) := by decide +kernel
theorem dL_some_3 : decode cL_some 3 = .ok (.iand, 1) := by decide +kernel
theorem dL_some_4 : decode cL_some 4 = .ok (.iload_n 1, 1) := by decide +kernel
theorem dL_some_5 : decode cL_some 5 = .ok (.irem, 1) := by decide +kernel
theorem dL_some_6 : decode cL_some 6 = .ok (.ireturn, 1) := by decide +kernel
theorem dL_put_0 : decode cL_put 0 = .ok (.aload_n 1, 1) := by decide +kernel
theorem dL_put_1 : decode cL_put 1 = .ok (.iload_n 2, 1) := by decide +kernel
theorem dL_put_2 : decode cL_put 2 = .ok (.invokestatic 9, 3) := by decide +kernel
theorem dL_put_5 : decode cL_put 5 = .ok (.istore 4, 2) := by decide +kernel
theorem dL_put_7 : decode cL_put 7 = .ok (.aload_n 3, 1) := by decide +kernel
theorem dL_put_8 : decode cL_put 8 = .ok (.iconst 0, 1) := by decide +kernel
theorem dL_put_9 : decode cL_put 9 = .ok (.iconst 2, 1) := by decide +kernel
theorem dL_put_10 : decode cL_put 10 = .ok (.iload 4, 2) := by decide +kernel
theorem dL_put_12 : decode cL_put 12 = .ok (.iconst 4, 1) := by decide +kernel
theorem dL_put_13 : decode cL_put 13 = .ok (.invokestatic 15, 3) := by decide +kernel
theorem dL_put_16 : decode cL_put 16 = .ok (.iadd, 1) := by decide +kernel
theorem dL_put_17 : decode cL_put 17 = .ok (.iastore, 1) := by decide +kernel
theorem dL_put_18 : decode cL_put 18 = .ok (.aload_n 3, 1) := by decide +kernel
theorem dL_put_19 : decode cL_put 19 = .ok (.iconst 1, 1) := by decide +kernel
theorem dL_put_20 : decode cL_put 20 = .ok (.iconst 2, 1) := by decide +kernel
theorem dL_put_21 : decode cL_put 21 = .ok (.iload 4, 2) := by decide +kernel
theorem dL_put_23 : decode cL_put 23 = .ok (.iconst 3, 1) := by decide +kernel
theorem dL_put_24 : decode cL_put 24 = .ok (.ishr, 1) := by decide +kernel
theorem dL_put_25 : decode cL_put 25 = .ok (.iconst 5, 1) := by decide +kernel
theorem dL_put_26 : decode cL_put 26 = .ok (.invokestatic 15, 3) := by decide +kernel
theorem dL_put_29 : decode cL_put 29 = .ok (.iadd, 1) := by decide +kernel
theorem dL_put_30 : decode cL_put 30 = .ok (.iastore, 1) := by decide +kernel
theorem dL_put_31 : decode cL_put 31 = .ok (.aload_n 3, 1) := by decide +kernel
theorem dL_put_32 : decode cL_put 32 = .ok (.iconst 2, 1) := by decide +kernel
theorem dL_put_33 : decode cL_put 33 = .ok (.bipush 10, 2) := by decide +kernel
theorem dL_put_35 : decode cL_put 35 = .ok (.iastore, 1) := by decide +kernel
theorem dL_put_36 : decode cL_put 36 = .ok (.aload_n 3, 1) := by decide +kernel
theorem dL_put_37 : decode cL_put 37 = .ok (.bipush 40, 2) := by decide +kernel
theorem dL_put_39 : decode cL_put 39 = .ok (.iconst 0, 1) := by decide +kernel
theorem dL_put_40 : decode cL_put 40 = .ok (.iastore, 1) := by decide +kernel
theorem dL_put_41 : decode cL_put 41 = .ok (.aload_n 3, 1) := by decide +kernel
theorem dL_put_42 : decode cL_put 42 = .ok (.bipush 41, 2) := by decide +kernel
theorem dL_put_44 : decode cL_put 44 = .ok (.iconst 0, 1) := by decide +kernel
theorem dL_put_45 : decode cL_put 45 = .ok (.iastore, 1) := by decide +kernel
theorem dL_put_46 : decode cL_put 46 = .ok (.aload_n 0, 1) := by decide +kernel
theorem dL_put_47 : decode cL_put 47 = .ok (.iconst 0, 1) := by decide +kernel
theorem dL_put_48 : decode cL_put 48 = .ok (.iconst 0, 1) := by decide +kernel
theorem dL_put_49 : decode cL_put 49 = .ok (.bipush 50, 2) := by decide +kernel
theorem dL_put_51 : decode cL_put 51 = .ok (.invokevirtual 19, 3) := by decide +kernel
theorem dL_put_54 : decode cL_put 54 = .ok (.iconst 1, 1) := by decide +kernel
theorem dL_put_55 : decode cL_put 55 = .ok (.if_icmp .ne 47, 3) := by decide +kernel
theorem dL_put_58 : decode cL_put 58 = .ok (.aload_n 0, 1) := by decide +kernel
theorem dL_put_59 : decode cL_put 59 = .ok (.iconst 0, 1) := by decide +kernel
theorem dL_put_60 : decode cL_put 60 = .ok (.iconst 0, 1) := by decide +kernel
theorem dL_put_61 : decode cL_put 61 = .ok (.bipush 103, 2) := by decide +kernel
theorem dL_put_63 : decode cL_put 63 = .ok (.invokevirtual 25, 3) := by decide +kernel
theorem dL_put_66 : decode cL_put 66 = .ok (.iconst 1, 1) := by decide +kernel
theorem dL_put_67 : decode cL_put 67 = .ok (.if_icmp .ne 35, 3) := by decide +kernel
theorem dL_put_70 : decode cL_put 70 = .ok (.aload_n 0, 1) := by decide +kernel
theorem dL_put_71 : decode cL_put 71 = .ok (.iconst 0, 1) := by decide +kernel
theorem dL_put_72 : decode cL_put 72 = .ok (.iconst 1, 1) := by decide +kernel
theorem dL_put_73 : decode cL_put 73 = .ok (.bipush 48, 2) := by decide +kernel
theorem dL_put_75 : decode cL_put 75 = .ok (.aload_n 3, 1) := by decide +kernel
theorem dL_put_76 : decode cL_put 76 = .ok (.iconst 0, 1) := by decide +kernel
theorem dL_put_77 : decode cL_put 77 = .ok (.iaload, 1) := by decide +kernel
theorem dL_put_78 : decode cL_put 78 = .ok (.iadd, 1) := by decide +kernel
theorem dL_put_79 : decode cL_put 79 = .ok (.invokevirtual 25, 3) := by decide +kernel
theorem dL_put_82 : decode cL_put 82 = .ok (.iconst 1, 1) := by decide +kernel
theorem dL_put_83 : decode cL_put 83 = .ok (.if_icmp .ne 19, 3) := by decide +kernel
theorem dL_put_86 : decode cL_put 86 = .ok (.aload_n 0, 1) := by decide +kernel
theorem dL_put_87 : decode cL_put 87 = .ok (.iconst 0, 1) := by decide +kernel
theorem dL_put_88 : decode cL_put 88 = .ok (.iconst 2, 1) := by decide +kernel
theorem dL_put_89 : decode cL_put 89 = .ok (.bipush 48, 2) := by decide +kernel
theorem dL_put_91 : decode cL_put 91 = .ok (.aload_n 3, 1) := by decide +kernel
theorem dL_put_92 : decode cL_put 92 = .ok (.iconst 1, 1) := by decide +kernel
theorem dL_put_93 : decode cL_put 93 = .ok (.iaload, 1) := by decide +kernel
theorem dL_put_94 : decode cL_put 94 = .ok (.iadd, 1) := by decide +kernel
theorem dL_put_95 : decode cL_put 95 = .ok (.invokevirtual 25, 3) := by decide +kernel
theorem dL_put_98 : decode cL_put 98 = .ok (.iconst 1, 1) := by decide +kernel
theorem dL_put_99 : decode cL_put 99 = .ok (.if_icmp .eq 6, 3) := by decide +kernel
theorem dL_put_102 : decode cL_put 102 = .ok (.bipush (-99), 2) := by decide +kernel
theorem dL_put_104 : decode cL_put 104 = .ok (.ireturn, 1) := by decide +kernel
theorem dL_put_105 : decode cL_put 105 = .ok (.iconst 3, 1) := by decide +kernel
theorem dL_put_106 : decode cL_put 106 = .ok (.istore 5, 2) := by decide +kernel
theorem dL_put_108 : decode cL_put 108 = .ok (.iconst 0, 1) := by decide +kernel
theorem dL_put_109 : decode cL_put 109 = .ok (.istore 6, 2) := by decide +kernel
theorem dL_put_111 : decode cL_put 111 = .ok (.iload 6, 2) := by decide +kernel
theorem dL_put_113 : decode cL_put 113 = .ok (.aload_n 3, 1) := by decide +kernel
theorem dL_put_114 : decode cL_put 114 = .ok (.iconst 0, 1) := by decide +kernel
theorem dL_put_115 : decode cL_put 115 = .ok (.iaload, 1) := by decide +kernel
theorem dL_put_116 : decode cL_put 116 = .ok (.if_icmp .ge 130, 3) := by decide +kernel
theorem dL_put_119 : decode cL_put 119 = .ok (.aload_n 0, 1) := by decide +kernel
theorem dL_put_120 : decode cL_put 120 = .ok (.iconst 0, 1) := by decide +kernel
theorem dL_put_121 : decode cL_put 121 = .ok (.iload 5, 2) := by decide +kernel
theorem dL_put_123 : decode cL_put 123 = .ok (.iinc 5 1, 3) := by decide +kernel
theorem dL_put_126 : decode cL_put 126 = .ok (.bipush 59, 2) := by decide +kernel
theorem dL_put_128 : decode cL_put 128 = .ok (.invokevirtual 25, 3) := by decide +kernel
theorem dL_put_131 : decode cL_put 131 = .ok (.iconst 1, 1) := by decide +kernel
theorem dL_put_132 : decode cL_put 132 = .ok (.if_icmp .eq 6, 3) := by decide +kernel
theorem dL_put_135 : decode cL_put 135 = .ok (.bipush (-99), 2) := by decide +kernel
theorem dL_put_137 : decode cL_put 137 = .ok (.ireturn, 1) := by decide +kernel
theorem dL_put_138 : decode cL_put 138 = .ok (.iconst 0, 1) := by decide +kernel
theorem dL_put_139 : decode cL_put 139 = .ok (.istore 7, 2) := by decide +kernel
theorem dL_put_141 : decode cL_put 141 = .ok (.iload 7, 2) := by decide +kernel
theorem dL_put_143 : decode cL_put 143 = .ok (.aload_n 3, 1) := by decide +kernel
theorem dL_put_144 : decode cL_put 144 = .ok (.iconst 1, 1) := by decide +kernel
theorem dL_put_145 : decode cL_put 145 = .ok (.iaload, 1) := by decide +kernel
theorem dL_put_146 : decode cL_put 146 = .ok (.if_icmp .ge 94, 3) := by decide +kernel
theorem dL_put_149 : decode cL_put 149 = .ok (.aload_n 1, 1) := by decide +kernel
theorem dL_put_150 : decode cL_put 150 = .ok (.iload_n 2, 1) := by decide +kernel
theorem dL_put_151 : decode cL_put 151 = .ok (.iconst 1, 1) := by decide +kernel
theorem dL_put_152 : decode cL_put 152 = .ok (.iadd, 1) := by decide +kernel
theorem dL_put_153 : decode cL_put 153 = .ok (.iload 6, 2) := by decide +kernel
theorem dL_put_155 : decode cL_put 155 = .ok (.iconst 3, 1) := by decide +kernel
theorem dL_put_156 : decode cL_put 156 = .ok (.irem, 1) := by decide +kernel
theorem dL_put_157 : decode cL_put 157 = .ok (.iadd, 1) := by decide +kernel
theorem dL_put_158 : decode cL_put 158 = .ok (.invokestatic 9, 3) := by decide +kernel
