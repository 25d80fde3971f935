theorem dX0_init_0 : decode cX0_init 0 = .ok (.aload_n 0, 1) := by decide +kernel
theorem dX0_init_1 : decode cX0_init 1 = .ok (.invokespecial 3, 3) := by decide +kernel
theorem dX0_init_4 : decode cX0_init 4 = .ok (.aload_n 0, 1) := by decide +kernel
theorem dX0_init_5 : decode cX0_init 5 = .ok (.aload_n 1, 1) := by decide +kernel
theorem dX0_init_6 : decode cX0_init 6 = .ok (.putfield 9, 3) := by decide +kernel
theorem dX0_init_9 : decode cX0_init 9 = .ok (.aload_n 0, 1) := by decide +kernel
theorem dX0_init_10 : decode cX0_init 10 = .ok (.aload_n 2, 1) := by decide +kernel
theorem dX0_init_11 : decode cX0_init 11 = .ok (.putfield 15, 3) := by decide +kernel
theorem dX0_init_14 : decode cX0_init 14 = .ok (.aload_n 0, 1) := by decide +kernel
theorem dX0_init_15 : decode cX0_init 15 = .ok (.sipush 180, 3) := by decide +kernel
theorem dX0_init_18 : decode cX0_init 18 = .ok (.newarray .long, 2) := by decide +kernel
theorem dX0_init_20 : decode cX0_init 20 = .ok (.putfield 19, 3) := by decide +kernel
theorem dX0_init_23 : decode cX0_init 23 = .ok (.aload_n 0, 1) := by decide +kernel
theorem dX0_init_24 : decode cX0_init 24 = .ok (.sipush 180, 3) := by decide +kernel
theorem dX0_init_27 : decode cX0_init 27 = .ok (.newarray .long, 2) := by decide +kernel
theorem dX0_init_29 : decode cX0_init 29 = .ok (.putfield 23, 3) := by decide +kernel
theorem dX0_init_32 : decode cX0_init 32 = .ok (.aload_n 0, 1) := by decide +kernel
theorem dX0_init_33 : decode cX0_init 33 = .ok (.bipush 30, 2) := by decide +kernel
theorem dX0_init_35 : decode cX0_init 35 = .ok (.newarray .long, 2) := by decide +kernel
theorem dX0_init_37 : decode cX0_init 37 = .ok (.putfield 26, 3) := by decide +kernel
theorem dX0_init_40 : decode cX0_init 40 = .ok (.return_, 1) := by decide +kernel
theorem dX0_grainsOfOne_0 : decode cX0_grainsOfOne 0 = .ok (.ldc2_w 29, 3) := by decide +kernel
theorem dX0_grainsOfOne_3 : decode cX0_grainsOfOne 3 = .ok (.iload_n 0, 1) := by decide +kernel
theorem dX0_grainsOfOne_4 : decode cX0_grainsOfOne 4 = .ok (.invokestatic 31, 3) := by decide +kernel
theorem dX0_grainsOfOne_7 : decode cX0_grainsOfOne 7 = .ok (.i2l, 1) := by decide +kernel
theorem dX0_grainsOfOne_8 : decode cX0_grainsOfOne 8 = .ok (.lmul, 1) := by decide +kernel
theorem dX0_grainsOfOne_9 : decode cX0_grainsOfOne 9 = .ok (.lreturn, 1) := by decide +kernel
theorem dX0_strength_0 : decode cX0_strength 0 = .ok (.bipush 10, 2) := by decide +kernel
theorem dX0_strength_2 : decode cX0_strength 2 = .ok (.iload_n 0, 1) := by decide +kernel
theorem dX0_strength_3 : decode cX0_strength 3 = .ok (.bipush 10, 2) := by decide +kernel
theorem dX0_strength_5 : decode cX0_strength 5 = .ok (.irem, 1) := by decide +kernel
theorem dX0_strength_6 : decode cX0_strength 6 = .ok (.iadd, 1) := by decide +kernel
theorem dX0_strength_7 : decode cX0_strength 7 = .ok (.ireturn, 1) := by decide +kernel
theorem dX0_carry_0 : decode cX0_carry 0 = .ok (.iconst 0, 1) := by decide +kernel
theorem dX0_carry_1 : decode cX0_carry 1 = .ok (.istore_n 2, 1) := by decide +kernel
theorem dX0_carry_2 : decode cX0_carry 2 = .ok (.iload_n 2, 1) := by decide +kernel
theorem dX0_carry_3 : decode cX0_carry 3 = .ok (.aload_n 0, 1) := by decide +kernel
theorem dX0_carry_4 : decode cX0_carry 4 = .ok (.getfield 9, 3) := by decide +kernel
theorem dX0_carry_7 : decode cX0_carry 7 = .ok (.getfield 35, 3) := by decide +kernel
theorem dX0_carry_10 : decode cX0_carry 10 = .ok (.if_icmp .ge 43, 3) := by decide +kernel
theorem dX0_carry_13 : decode cX0_carry 13 = .ok (.aload_n 0, 1) := by decide +kernel
theorem dX0_carry_14 : decode cX0_carry 14 = .ok (.getfield 19, 3) := by decide +kernel
theorem dX0_carry_17 : decode cX0_carry 17 = .ok (.iload_n 1, 1) := by decide +kernel
theorem dX0_carry_18 : decode cX0_carry 18 = .ok (.bipush 30, 2) := by decide +kernel
theorem dX0_carry_20 : decode cX0_carry 20 = .ok (.imul, 1) := by decide +kernel
theorem dX0_carry_21 : decode cX0_carry 21 = .ok (.iload_n 2, 1) := by decide +kernel
theorem dX0_carry_22 : decode cX0_carry 22 = .ok (.iadd, 1) := by decide +kernel
theorem dX0_carry_23 : decode cX0_carry 23 = .ok (.aload_n 0, 1) := by decide +kernel
theorem dX0_carry_24 : decode cX0_carry 24 = .ok (.aload_n 0, 1) := by decide +kernel
theorem dX0_carry_25 : decode cX0_carry 25 = .ok (.getfield 15, 3) := by decide +kernel
theorem dX0_carry_28 : decode cX0_carry 28 = .ok (.getfield 41, 3) := by decide +kernel
theorem dX0_carry_31 : decode cX0_carry 31 = .ok (.iload_n 1, 1) := by decide +kernel
theorem dX0_carry_32 : decode cX0_carry 32 = .ok (.iaload, 1) := by decide +kernel
theorem dX0_carry_33 : decode cX0_carry 33 = .ok (.aload_n 0, 1) := by decide +kernel
theorem dX0_carry_34 : decode cX0_carry 34 = .ok (.getfield 15, 3) := by decide +kernel
theorem dX0_carry_37 : decode cX0_carry 37 = .ok (.getfield 47, 3) := by decide +kernel
theorem dX0_carry_40 : decode cX0_carry 40 = .ok (.iload_n 1, 1) := by decide +kernel
theorem dX0_carry_41 : decode cX0_carry 41 = .ok (.iaload, 1) := by decide +kernel
theorem dX0_carry_42 : decode cX0_carry 42 = .ok (.iload_n 2, 1) := by decide +kernel
theorem dX0_carry_43 : decode cX0_carry 43 = .ok (.invokevirtual 50, 3) := by decide +kernel
theorem dX0_carry_46 : decode cX0_carry 46 = .ok (.lastore, 1) := by decide +kernel
theorem dX0_carry_47 : decode cX0_carry 47 = .ok (.iinc 2 1, 3) := by decide +kernel
theorem dX0_carry_50 : decode cX0_carry 50 = .ok (.goto (-48), 3) := by decide +kernel
theorem dX0_carry_53 : decode cX0_carry 53 = .ok (.return_, 1) := by decide +kernel
theorem dX0_carryAll_0 : decode cX0_carryAll 0 = .ok (.iconst 0, 1) := by decide +kernel
theorem dX0_carryAll_1 : decode cX0_carryAll 1 = .ok (.istore_n 1, 1) := by decide +kernel
theorem dX0_carryAll_2 : decode cX0_carryAll 2 = .ok (.iload_n 1, 1) := by decide +kernel
theorem dX0_carryAll_3 : decode cX0_carryAll 3 = .ok (.aload_n 0, 1) := by decide +kernel
theorem dX0_carryAll_4 : decode cX0_carryAll 4 = .ok (.getfield 15, 3) := by decide +kernel
theorem dX0_carryAll_7 : decode cX0_carryAll 7 = .ok (.getfield 54, 3) := by decide +kernel
theorem dX0_carryAll_10 : decode cX0_carryAll 10 = .ok (.if_icmp .ge 14, 3) := by decide +kernel
theorem dX0_carryAll_13 : decode cX0_carryAll 13 = .ok (.aload_n 0, 1) := by decide +kernel
theorem dX0_carryAll_14 : decode cX0_carryAll 14 = .ok (.iload_n 1, 1) := by decide +kernel
theorem dX0_carryAll_15 : decode cX0_carryAll 15 = .ok (.invokevirtual 57, 3) := by decide +kernel
theorem dX0_carryAll_18 : decode cX0_carryAll 18 = .ok (.iinc 1 1, 3) := by decide +kernel
theorem dX0_carryAll_21 : decode cX0_carryAll 21 = .ok (.goto (-19), 3) := by decide +kernel
theorem dX0_carryAll_24 : decode cX0_carryAll 24 = .ok (.return_, 1) := by decide +kernel
theorem dX0_calmUnit_0 : decode cX0_calmUnit 0 = .ok (.aload_n 0, 1) := by decide +kernel
theorem dX0_calmUnit_1 : decode cX0_calmUnit 1 = .ok (.getfield 9, 3) := by decide +kernel
theorem dX0_calmUnit_4 : decode cX0_calmUnit 4 = .ok (.iload_n 2, 1) := by decide +kernel
theorem dX0_calmUnit_5 : decode cX0_calmUnit 5 = .ok (.iload_n 3, 1) := by decide +kernel
theorem dX0_calmUnit_6 : decode cX0_calmUnit 6 = .ok (.invokevirtual 61, 3) := by decide +kernel
theorem dX0_calmUnit_9 : decode cX0_calmUnit 9 = .ok (.istore 4, 2) := by decide +kernel
theorem dX0_calmUnit_11 : decode cX0_calmUnit 11 = .ok (.iload 4, 2) := by decide +kernel
theorem dX0_calmUnit_13 : decode cX0_calmUnit 13 = .ok (.aload_n 0, 1) := by decide +kernel
theorem dX0_calmUnit_14 : decode cX0_calmUnit 14 = .ok (.getfield 9, 3) := by decide +kernel
theorem dX0_calmUnit_17 : decode cX0_calmUnit 17 = .ok (.getfield 65, 3) := by decide +kernel
theorem dX0_calmUnit_20 : decode cX0_calmUnit 20 = .ok (.iand, 1) := by decide +kernel
theorem dX0_calmUnit_21 : decode cX0_calmUnit 21 = .ok (.invokestatic 68, 3) := by decide +kernel
theorem dX0_calmUnit_24 : decode cX0_calmUnit 24 = .ok (.istore 5, 2) := by decide +kernel
theorem dX0_calmUnit_26 : decode cX0_calmUnit 26 = .ok (.iload_n 1, 1) := by decide +kernel
theorem dX0_calmUnit_27 : decode cX0_calmUnit 27 = .ok (.iconst 2, 1) := by decide +kernel
theorem dX0_calmUnit_28 : decode cX0_calmUnit 28 = .ok (.if_icmp .eq 19, 3) := by decide +kernel
theorem dX0_calmUnit_31 : decode cX0_calmUnit 31 = .ok (.iload 5, 2) := by decide +kernel
theorem dX0_calmUnit_33 : decode cX0_calmUnit 33 = .ok (.aload_n 0, 1) := by decide +kernel
theorem dX0_calmUnit_34 : decode cX0_calmUnit 34 = .ok (.getfield 9, 3) := by decide +kernel
theorem dX0_calmUnit_37 : decode cX0_calmUnit 37 = .ok (.iload 4, 2) := by decide +kernel
theorem dX0_calmUnit_39 : decode cX0_calmUnit 39 = .ok (.iload_n 2, 1) := by decide +kernel
theorem dX0_calmUnit_40 : decode cX0_calmUnit 40 = .ok (.iload_n 3, 1) := by decide +kernel
theorem dX0_calmUnit_41 : decode cX0_calmUnit 41 = .ok (.invokevirtual 73, 3) := by decide +kernel
theorem dX0_calmUnit_44 : decode cX0_calmUnit 44 = .ok (.iadd, 1) := by decide +kernel
theorem dX0_calmUnit_45 : decode cX0_calmUnit 45 = .ok (.istore 5, 2) := by decide +kernel
theorem dX0_calmUnit_47 : decode cX0_calmUnit 47 = .ok (.aload_n 0, 1) := by decide +kernel
theorem dX0_calmUnit_48 : decode cX0_calmUnit 48 = .ok (.getfield 9, 3) := by decide +kernel
theorem dX0_calmUnit_51 : decode cX0_calmUnit 51 = .ok (.iload_n 2, 1) := by decide +kernel
theorem dX0_calmUnit_52 : decode cX0_calmUnit 52 = .ok (.iload_n 3, 1) := by decide +kernel
theorem dX0_calmUnit_53 : decode cX0_calmUnit 53 = .ok (.invokevirtual 77, 3) := by decide +kernel
theorem dX0_calmUnit_56 : decode cX0_calmUnit 56 = .ok (.istore 6, 2) := by decide +kernel
theorem dX0_calmUnit_58 : decode cX0_calmUnit 58 = .ok (.iload_n 1, 1) := by decide +kernel
theorem dX0_calmUnit_59 : decode cX0_calmUnit 59 = .ok (.iconst 1, 1) := by decide +kernel
theorem dX0_calmUnit_60 : decode cX0_calmUnit 60 = .ok (.if_icmp .ge 15, 3) := by decide +kernel
theorem dX0_calmUnit_63 : decode cX0_calmUnit 63 = .ok (.ldc2_w 80, 3) := by decide +kernel
theorem dX0_calmUnit_66 : decode cX0_calmUnit 66 = .ok (.iconst 1, 1) := by decide +kernel
theorem dX0_calmUnit_67 : decode cX0_calmUnit 67 = .ok (.iload 6, 2) := by decide +kernel
theorem dX0_calmUnit_69 : decode cX0_calmUnit 69 = .ok (.iadd, 1) := by decide +kernel
theorem dX0_calmUnit_70 : decode cX0_calmUnit 70 = .ok (.i2l, 1) := by decide +kernel
theorem dX0_calmUnit_71 : decode cX0_calmUnit 71 = .ok (.ldiv, 1) := by decide +kernel
theorem dX0_calmUnit_72 : decode cX0_calmUnit 72 = .ok (.goto 16, 3) := by decide +kernel
theorem dX0_calmUnit_75 : decode cX0_calmUnit 75 = .ok (.ldc2_w 80, 3) := by decide +kernel
theorem dX0_calmUnit_78 : decode cX0_calmUnit 78 = .ok (.iconst 2, 1) := by decide +kernel
theorem dX0_calmUnit_79 : decode cX0_calmUnit 79 = .ok (.iload 6, 2) := by decide +kernel
theorem dX0_calmUnit_81 : decode cX0_calmUnit 81 = .ok (.iadd, 1) := by decide +kernel
theorem dX0_calmUnit_82 : decode cX0_calmUnit 82 = .ok (.i2l, 1) := by decide +kernel
theorem dX0_calmUnit_83 : decode cX0_calmUnit 83 = .ok (.ldiv, 1) := by decide +kernel
theorem dX0_calmUnit_84 : decode cX0_calmUnit 84 = .ok (.ldc2_w 82, 3) := by decide +kernel
theorem dX0_calmUnit_87 : decode cX0_calmUnit 87 = .ok (.lmul, 1) := by decide +kernel
theorem dX0_calmUnit_88 : decode cX0_calmUnit 88 = .ok (.lstore 7, 2) := by decide +kernel
theorem dX0_calmUnit_90 : decode cX0_calmUnit 90 = .ok (.lload 7, 2) := by decide +kernel
theorem dX0_calmUnit_92 : decode cX0_calmUnit 92 = .ok (.iload 5, 2) := by decide +kernel
theorem dX0_calmUnit_94 : decode cX0_calmUnit 94 = .ok (.lshr, 1) := by decide +kernel
theorem dX0_calmUnit_95 : decode cX0_calmUnit 95 = .ok (.lreturn, 1) := by decide +kernel
theorem dX0_blown_0 : decode cX0_blown 0 = .ok (.aload_n 0, 1) := by decide +kernel
theorem dX0_blown_1 : decode cX0_blown 1 = .ok (.getfield 9, 3) := by decide +kernel
theorem dX0_blown_4 : decode cX0_blown 4 = .ok (.iload_n 3, 1) := by decide +kernel
theorem dX0_blown_5 : decode cX0_blown 5 = .ok (.iload 4, 2) := by decide +kernel
theorem dX0_blown_7 : decode cX0_blown 7 = .ok (.iload 5, 2) := by decide +kernel
theorem dX0_blown_9 : decode cX0_blown 9 = .ok (.invokevirtual 84, 3) := by decide +kernel
theorem dX0_blown_12 : decode cX0_blown 12 = .ok (.istore 6, 2) := by decide +kernel
theorem dX0_blown_14 : decode cX0_blown 14 = .ok (.iload 5, 2) := by decide +kernel
theorem dX0_blown_16 : decode cX0_blown 16 = .ok (.invokestatic 31, 3) := by decide +kernel
theorem dX0_blown_19 : decode cX0_blown 19 = .ok (.istore 7, 2) := by decide +kernel
theorem dX0_blown_21 : decode cX0_blown 21 = .ok (.iload 6, 2) := by decide +kernel
theorem dX0_blown_23 : decode cX0_blown 23 = .ok (.ifCond .le 13, 3) := by decide +kernel
theorem dX0_blown_26 : decode cX0_blown 26 = .ok (.lload_n 1, 1) := by decide +kernel
theorem dX0_blown_27 : decode cX0_blown 27 = .ok (.iload 7, 2) := by decide +kernel
theorem dX0_blown_29 : decode cX0_blown 29 = .ok (.i2l, 1) := by decide +kernel
theorem dX0_blown_30 : decode cX0_blown 30 = .ok (.lmul, 1) := by decide +kernel
theorem dX0_blown_31 : decode cX0_blown 31 = .ok (.iload 7, 2) := by decide +kernel
theorem dX0_blown_33 : decode cX0_blown 33 = .ok (.i2l, 1) := by decide +kernel
theorem dX0_blown_34 : decode cX0_blown 34 = .ok (.lmul, 1) := by decide +kernel
theorem dX0_blown_35 : decode cX0_blown 35 = .ok (.lreturn, 1) := by decide +kernel
theorem dX0_blown_36 : decode cX0_blown 36 = .ok (.iload 6, 2) := by decide +kernel
theorem dX0_blown_38 : decode cX0_blown 38 = .ok (.ifCond .ge 11, 3) := by decide +kernel
theorem dX0_blown_41 : decode cX0_blown 41 = .ok (.lload_n 1, 1) := by decide +kernel
theorem dX0_blown_42 : decode cX0_blown 42 = .ok (.ldc2_w 87, 3) := by decide +kernel
theorem dX0_blown_45 : decode cX0_blown 45 = .ok (.lmul, 1) := by decide +kernel
theorem dX0_blown_46 : decode cX0_blown 46 = .ok (.goto 12, 3) := by decide +kernel
theorem dX0_blown_49 : decode cX0_blown 49 = .ok (.lload_n 1, 1) := by decide +kernel
theorem dX0_blown_50 : decode cX0_blown 50 = .ok (.ldc2_w 89, 3) := by decide +kernel
theorem dX0_blown_53 : decode cX0_blown 53 = .ok (.lmul, 1) := by decide +kernel
theorem dX0_blown_54 : decode cX0_blown 54 = .ok (.iload 7, 2) := by decide +kernel
theorem dX0_blown_56 : decode cX0_blown 56 = .ok (.i2l, 1) := by decide +kernel
theorem dX0_blown_57 : decode cX0_blown 57 = .ok (.lmul, 1) := by decide +kernel
theorem dX0_blown_58 : decode cX0_blown 58 = .ok (.lreturn, 1) := by decide +kernel
theorem dX0_unitBy_0 : decode cX0_unitBy 0 = .ok (.aload_n 0, 1) := by decide +kernel
theorem dX0_unitBy_1 : decode cX0_unitBy 1 = .ok (.aload_n 0, 1) := by decide +kernel
theorem dX0_unitBy_2 : decode cX0_unitBy 2 = .ok (.getfield 19, 3) := by decide +kernel
theorem dX0_unitBy_5 : decode cX0_unitBy 5 = .ok (.iload_n 1, 1) := by decide +kernel
theorem dX0_unitBy_6 : decode cX0_unitBy 6 = .ok (.bipush 30, 2) := by decide +kernel
theorem dX0_unitBy_8 : decode cX0_unitBy 8 = .ok (.imul, 1) := by decide +kernel
theorem dX0_unitBy_9 : decode cX0_unitBy 9 = .ok (.iload_n 2, 1) := by decide +kernel
theorem dX0_unitBy_10 : decode cX0_unitBy 10 = .ok (.iadd, 1) := by decide +kernel
theorem dX0_unitBy_11 : decode cX0_unitBy 11 = .ok (.laload, 1) := by decide +kernel
theorem dX0_unitBy_12 : decode cX0_unitBy 12 = .ok (.aload_n 0, 1) := by decide +kernel
theorem dX0_unitBy_13 : decode cX0_unitBy 13 = .ok (.getfield 15, 3) := by decide +kernel
theorem dX0_unitBy_16 : decode cX0_unitBy 16 = .ok (.getfield 47, 3) := by decide +kernel
theorem dX0_unitBy_19 : decode cX0_unitBy 19 = .ok (.iload_n 1, 1) := by decide +kernel
theorem dX0_unitBy_20 : decode cX0_unitBy 20 = .ok (.iaload, 1) := by decide +kernel
theorem dX0_unitBy_21 : decode cX0_unitBy 21 = .ok (.iload_n 2, 1) := by decide +kernel
theorem dX0_unitBy_22 : decode cX0_unitBy 22 = .ok (.iload_n 3, 1) := by decide +kernel
theorem dX0_unitBy_23 : decode cX0_unitBy 23 = .ok (.invokevirtual 91, 3) := by decide +kernel
theorem dX0_unitBy_26 : decode cX0_unitBy 26 = .ok (.lreturn, 1) := by decide +kernel
theorem dX0_blow_0 : decode cX0_blow 0 = .ok (.iconst 0, 1) := by decide +kernel
theorem dX0_blow_1 : decode cX0_blow 1 = .ok (.istore_n 2, 1) := by decide +kernel
theorem dX0_blow_2 : decode cX0_blow 2 = .ok (.iload_n 2, 1) := by decide +kernel
theorem dX0_blow_3 : decode cX0_blow 3 = .ok (.aload_n 0, 1) := by decide +kernel
theorem dX0_blow_4 : decode cX0_blow 4 = .ok (.getfield 15, 3) := by decide +kernel
theorem dX0_blow_7 : decode cX0_blow 7 = .ok (.getfield 54, 3) := by decide +kernel
theorem dX0_blow_10 : decode cX0_blow 10 = .ok (.if_icmp .ge 46, 3) := by decide +kernel
theorem dX0_blow_13 : decode cX0_blow 13 = .ok (.iconst 0, 1) := by decide +kernel
theorem dX0_blow_14 : decode cX0_blow 14 = .ok (.istore_n 3, 1) := by decide +kernel
theorem dX0_blow_15 : decode cX0_blow 15 = .ok (.iload_n 3, 1) := by decide +kernel
theorem dX0_blow_16 : decode cX0_blow 16 = .ok (.aload_n 0, 1) := by decide +kernel
theorem dX0_blow_17 : decode cX0_blow 17 = .ok (.getfield 9, 3) := by decide +kernel
theorem dX0_blow_20 : decode cX0_blow 20 = .ok (.getfield 35, 3) := by decide +kernel
theorem dX0_blow_23 : decode cX0_blow 23 = .ok (.if_icmp .ge 27, 3) := by decide +kernel
theorem dX0_blow_26 : decode cX0_blow 26 = .ok (.aload_n 0, 1) := by decide +kernel
theorem dX0_blow_27 : decode cX0_blow 27 = .ok (.getfield 23, 3) := by decide +kernel
theorem dX0_blow_30 : decode cX0_blow 30 = .ok (.iload_n 2, 1) := by decide +kernel
theorem dX0_blow_31 : decode cX0_blow 31 = .ok (.bipush 30, 2) := by decide +kernel
theorem dX0_blow_33 : decode cX0_blow 33 = .ok (.imul, 1) := by decide +kernel
theorem dX0_blow_34 : decode cX0_blow 34 = .ok (.iload_n 3, 1) := by decide +kernel
theorem dX0_blow_35 : decode cX0_blow 35 = .ok (.iadd, 1) := by decide +kernel
theorem dX0_blow_36 : decode cX0_blow 36 = .ok (.aload_n 0, 1) := by decide +kernel
theorem dX0_blow_37 : decode cX0_blow 37 = .ok (.iload_n 2, 1) := by decide +kernel
theorem dX0_blow_38 : decode cX0_blow 38 = .ok (.iload_n 3, 1) := by decide +kernel
theorem dX0_blow_39 : decode cX0_blow 39 = .ok (.iload_n 1, 1) := by decide +kernel
theorem dX0_blow_40 : decode cX0_blow 40 = .ok (.invokevirtual 95, 3) := by decide +kernel
theorem dX0_blow_43 : decode cX0_blow 43 = .ok (.lastore, 1) := by decide +kernel
theorem dX0_blow_44 : decode cX0_blow 44 = .ok (.iinc 3 1, 3) := by decide +kernel
theorem dX0_blow_47 : decode cX0_blow 47 = .ok (.goto (-32), 3) := by decide +kernel
theorem dX0_blow_50 : decode cX0_blow 50 = .ok (.iinc 2 1, 3) := by decide +kernel
theorem dX0_blow_53 : decode cX0_blow 53 = .ok (.goto (-51), 3) := by decide +kernel
theorem dX0_blow_56 : decode cX0_blow 56 = .ok (.aload_n 0, 1) := by decide +kernel
theorem dX0_blow_57 : decode cX0_blow 57 = .ok (.aload_n 0, 1) := by decide +kernel
theorem dX0_blow_58 : decode cX0_blow 58 = .ok (.getfield 98, 3) := by decide +kernel
theorem dX0_blow_61 : decode cX0_blow 61 = .ok (.i2l, 1) := by decide +kernel
theorem dX0_blow_62 : decode cX0_blow 62 = .ok (.ldc2_w 80, 3) := by decide +kernel
theorem dX0_blow_65 : decode cX0_blow 65 = .ok (.lmul, 1) := by decide +kernel
theorem dX0_blow_66 : decode cX0_blow 66 = .ok (.iload_n 1, 1) := by decide +kernel
theorem dX0_blow_67 : decode cX0_blow 67 = .ok (.invokestatic 31, 3) := by decide +kernel
theorem dX0_blow_70 : decode cX0_blow 70 = .ok (.i2l, 1) := by decide +kernel
theorem dX0_blow_71 : decode cX0_blow 71 = .ok (.lmul, 1) := by decide +kernel
theorem dX0_blow_72 : decode cX0_blow 72 = .ok (.putfield 101, 3) := by decide +kernel
theorem dX0_blow_75 : decode cX0_blow 75 = .ok (.return_, 1) := by decide +kernel
theorem dX0_loudness_0 : decode cX0_loudness 0 = .ok (.aload_n 0, 1) := by decide +kernel
theorem dX0_loudness_1 : decode cX0_loudness 1 = .ok (.getfield 15, 3) := by decide +kernel
theorem dX0_loudness_4 : decode cX0_loudness 4 = .ok (.getfield 105, 3) := by decide +kernel
theorem dX0_loudness_7 : decode cX0_loudness 7 = .ok (.iload_n 1, 1) := by decide +kernel
theorem dX0_loudness_8 : decode cX0_loudness 8 = .ok (.iaload, 1) := by decide +kernel
theorem dX0_loudness_9 : decode cX0_loudness 9 = .ok (.i2l, 1) := by decide +kernel
theorem dX0_loudness_10 : decode cX0_loudness 10 = .ok (.aload_n 0, 1) := by decide +kernel
theorem dX0_loudness_11 : decode cX0_loudness 11 = .ok (.getfield 23, 3) := by decide +kernel
theorem dX0_loudness_14 : decode cX0_loudness 14 = .ok (.iload_n 1, 1) := by decide +kernel
theorem dX0_loudness_15 : decode cX0_loudness 15 = .ok (.bipush 30, 2) := by decide +kernel
theorem dX0_loudness_17 : decode cX0_loudness 17 = .ok (.imul, 1) := by decide +kernel
theorem dX0_loudness_18 : decode cX0_loudness 18 = .ok (.iload_n 2, 1) := by decide +kernel
theorem dX0_loudness_19 : decode cX0_loudness 19 = .ok (.iadd, 1) := by decide +kernel
theorem dX0_loudness_20 : decode cX0_loudness 20 = .ok (.laload, 1) := by decide +kernel
theorem dX0_loudness_21 : decode cX0_loudness 21 = .ok (.lmul, 1) := by decide +kernel
theorem dX0_loudness_22 : decode cX0_loudness 22 = .ok (.lreturn, 1) := by decide +kernel
theorem dX0_loudestIn_0 : decode cX0_loudestIn 0 = .ok (.aload_n 0, 1) := by decide +kernel
theorem dX0_loudestIn_1 : decode cX0_loudestIn 1 = .ok (.getfield 101, 3) := by decide +kernel
theorem dX0_loudestIn_4 : decode cX0_loudestIn 4 = .ok (.lstore_n 2, 1) := by decide +kernel
theorem dX0_loudestIn_5 : decode cX0_loudestIn 5 = .ok (.iconst 0, 1) := by decide +kernel
theorem dX0_loudestIn_6 : decode cX0_loudestIn 6 = .ok (.istore 4, 2) := by decide +kernel
theorem dX0_loudestIn_8 : decode cX0_loudestIn 8 = .ok (.iconst 0, 1) := by decide +kernel
theorem dX0_loudestIn_9 : decode cX0_loudestIn 9 = .ok (.istore 5, 2) := by decide +kernel
theorem dX0_loudestIn_11 : decode cX0_loudestIn 11 = .ok (.iload 5, 2) := by decide +kernel
theorem dX0_loudestIn_13 : decode cX0_loudestIn 13 = .ok (.aload_n 0, 1) := by decide +kernel
theorem dX0_loudestIn_14 : decode cX0_loudestIn 14 = .ok (.getfield 15, 3) := by decide +kernel
theorem dX0_loudestIn_17 : decode cX0_loudestIn 17 = .ok (.getfield 54, 3) := by decide +kernel
theorem dX0_loudestIn_20 : decode cX0_loudestIn 20 = .ok (.if_icmp .ge 53, 3) := by decide +kernel
theorem dX0_loudestIn_23 : decode cX0_loudestIn 23 = .ok (.aload_n 0, 1) := by decide +kernel
theorem dX0_loudestIn_24 : decode cX0_loudestIn 24 = .ok (.iload 5, 2) := by decide +kernel
theorem dX0_loudestIn_26 : decode cX0_loudestIn 26 = .ok (.iload_n 1, 1) := by decide +kernel
theorem dX0_loudestIn_27 : decode cX0_loudestIn 27 = .ok (.invokevirtual 108, 3) := by decide +kernel
theorem dX0_loudestIn_30 : decode cX0_loudestIn 30 = .ok (.lstore 6, 2) := by decide +kernel
theorem dX0_loudestIn_32 : decode cX0_loudestIn 32 = .ok (.lload 6, 2) := by decide +kernel
theorem dX0_loudestIn_34 : decode cX0_loudestIn 34 = .ok (.lload_n 2, 1) := by decide +kernel
theorem dX0_loudestIn_35 : decode cX0_loudestIn 35 = .ok (.lcmp, 1) := by decide +kernel
theorem dX0_loudestIn_36 : decode cX0_loudestIn 36 = .ok (.ifCond .le 15, 3) := by decide +kernel
theorem dX0_loudestIn_39 : decode cX0_loudestIn 39 = .ok (.lload 6, 2) := by decide +kernel
theorem dX0_loudestIn_41 : decode cX0_loudestIn 41 = .ok (.lstore_n 2, 1) := by decide +kernel
theorem dX0_loudestIn_42 : decode cX0_loudestIn 42 = .ok (.iconst 1, 1) := by decide +kernel
theorem dX0_loudestIn_43 : decode cX0_loudestIn 43 = .ok (.iload 5, 2) := by decide +kernel
theorem dX0_loudestIn_45 : decode cX0_loudestIn 45 = .ok (.ishl, 1) := by decide +kernel
theorem dX0_loudestIn_46 : decode cX0_loudestIn 46 = .ok (.istore 4, 2) := by decide +kernel
theorem dX0_loudestIn_48 : decode cX0_loudestIn 48 = .ok (.goto 19, 3) := by decide +kernel
theorem dX0_loudestIn_51 : decode cX0_loudestIn 51 = .ok (.lload 6, 2) := by decide +kernel
theorem dX0_loudestIn_53 : decode cX0_loudestIn 53 = .ok (.lload_n 2, 1) := by decide +kernel
theorem dX0_loudestIn_54 : decode cX0_loudestIn 54 = .ok (.lcmp, 1) := by decide +kernel
theorem dX0_loudestIn_55 : decode cX0_loudestIn 55 = .ok (.ifCond .ne 12, 3) := by decide +kernel
theorem dX0_loudestIn_58 : decode cX0_loudestIn 58 = .ok (.iload 4, 2) := by decide +kernel
theorem dX0_loudestIn_60 : decode cX0_loudestIn 60 = .ok (.iconst 1, 1) := by decide +kernel
theorem dX0_loudestIn_61 : decode cX0_loudestIn 61 = .ok (.iload 5, 2) := by decide +kernel
theorem dX0_loudestIn_63 : decode cX0_loudestIn 63 = .ok (.ishl, 1) := by decide +kernel
theorem dX0_loudestIn_64 : decode cX0_loudestIn 64 = .ok (.ior, 1) := by decide +kernel
theorem dX0_loudestIn_65 : decode cX0_loudestIn 65 = .ok (.istore 4, 2) := by decide +kernel
theorem dX0_loudestIn_67 : decode cX0_loudestIn 67 = .ok (.iinc 5 1, 3) := by decide +kernel
theorem dX0_loudestIn_70 : decode cX0_loudestIn 70 = .ok (.goto (-59), 3) := by decide +kernel
theorem dX0_loudestIn_73 : decode cX0_loudestIn 73 = .ok (.iload 4, 2) := by decide +kernel
theorem dX0_loudestIn_75 : decode cX0_loudestIn 75 = .ok (.ireturn, 1) := by decide +kernel
theorem dX0_bar_0 : decode cX0_bar 0 = .ok (.lconst 0, 1) := by decide +kernel
theorem dX0_bar_1 : decode cX0_bar 1 = .ok (.aload_n 0, 1) := by decide +kernel
theorem dX0_bar_2 : decode cX0_bar 2 = .ok (.getfield 101, 3) := by decide +kernel
theorem dX0_bar_5 : decode cX0_bar 5 = .ok (.lconst 1, 1) := by decide +kernel
theorem dX0_bar_6 : decode cX0_bar 6 = .ok (.lsub, 1) := by decide +kernel
theorem dX0_bar_7 : decode cX0_bar 7 = .ok (.invokestatic 112, 3) := by decide +kernel
theorem dX0_bar_10 : decode cX0_bar 10 = .ok (.lstore 5, 2) := by decide +kernel
theorem dX0_bar_12 : decode cX0_bar 12 = .ok (.iconst 0, 1) := by decide +kernel
theorem dX0_bar_13 : decode cX0_bar 13 = .ok (.istore 7, 2) := by decide +kernel
theorem dX0_bar_15 : decode cX0_bar 15 = .ok (.iload 7, 2) := by decide +kernel
theorem dX0_bar_17 : decode cX0_bar 17 = .ok (.aload_n 0, 1) := by decide +kernel
theorem dX0_bar_18 : decode cX0_bar 18 = .ok (.getfield 15, 3) := by decide +kernel
theorem dX0_bar_21 : decode cX0_bar 21 = .ok (.getfield 54, 3) := by decide +kernel
theorem dX0_bar_24 : decode cX0_bar 24 = .ok (.if_icmp .ge 47, 3) := by decide +kernel
theorem dX0_bar_27 : decode cX0_bar 27 = .ok (.iload 7, 2) := by decide +kernel
theorem dX0_bar_29 : decode cX0_bar 29 = .ok (.iload_n 3, 1) := by decide +kernel
theorem dX0_bar_30 : decode cX0_bar 30 = .ok (.if_icmp .eq 35, 3) := by decide +kernel
theorem dX0_bar_33 : decode cX0_bar 33 = .ok (.iload 7, 2) := by decide +kernel
theorem dX0_bar_35 : decode cX0_bar 35 = .ok (.iload 4, 2) := by decide +kernel
theorem dX0_bar_37 : decode cX0_bar 37 = .ok (.if_icmp .eq 28, 3) := by decide +kernel
theorem dX0_bar_40 : decode cX0_bar 40 = .ok (.lload 5, 2) := by decide +kernel
theorem dX0_bar_42 : decode cX0_bar 42 = .ok (.aload_n 1, 1) := by decide +kernel
theorem dX0_bar_43 : decode cX0_bar 43 = .ok (.iload 7, 2) := by decide +kernel
theorem dX0_bar_45 : decode cX0_bar 45 = .ok (.iaload, 1) := by decide +kernel
theorem dX0_bar_46 : decode cX0_bar 46 = .ok (.i2l, 1) := by decide +kernel
theorem dX0_bar_47 : decode cX0_bar 47 = .ok (.aload_n 0, 1) := by decide +kernel
theorem dX0_bar_48 : decode cX0_bar 48 = .ok (.getfield 23, 3) := by decide +kernel
theorem dX0_bar_51 : decode cX0_bar 51 = .ok (.iload 7, 2) := by decide +kernel
theorem dX0_bar_53 : decode cX0_bar 53 = .ok (.bipush 30, 2) := by decide +kernel
theorem dX0_bar_55 : decode cX0_bar 55 = .ok (.imul, 1) := by decide +kernel
theorem dX0_bar_56 : decode cX0_bar 56 = .ok (.iload_n 2, 1) := by decide +kernel
theorem dX0_bar_57 : decode cX0_bar 57 = .ok (.iadd, 1) := by decide +kernel
theorem dX0_bar_58 : decode cX0_bar 58 = .ok (.laload, 1) := by decide +kernel
theorem dX0_bar_59 : decode cX0_bar 59 = .ok (.lmul, 1) := by decide +kernel
theorem dX0_bar_60 : decode cX0_bar 60 = .ok (.invokestatic 112, 3) := by decide +kernel
theorem dX0_bar_63 : decode cX0_bar 63 = .ok (.lstore 5, 2) := by decide +kernel
theorem dX0_bar_65 : decode cX0_bar 65 = .ok (.iinc 7 1, 3) := by decide +kernel
theorem dX0_bar_68 : decode cX0_bar 68 = .ok (.goto (-53), 3) := by decide +kernel
theorem dX0_bar_71 : decode cX0_bar 71 = .ok (.lload 5, 2) := by decide +kernel
theorem dX0_bar_73 : decode cX0_bar 73 = .ok (.lreturn, 1) := by decide +kernel
theorem dX0_setBars_0 : decode cX0_setBars 0 = .ok (.iconst 0, 1) := by decide +kernel
theorem dX0_setBars_1 : decode cX0_setBars 1 = .ok (.istore_n 3, 1) := by decide +kernel
theorem dX0_setBars_2 : decode cX0_setBars 2 = .ok (.iload_n 3, 1) := by decide +kernel
theorem dX0_setBars_3 : decode cX0_setBars 3 = .ok (.aload_n 0, 1) := by decide +kernel
theorem dX0_setBars_4 : decode cX0_setBars 4 = .ok (.getfield 9, 3) := by decide +kernel
theorem dX0_setBars_7 : decode cX0_setBars 7 = .ok (.getfield 35, 3) := by decide +kernel
theorem dX0_setBars_10 : decode cX0_setBars 10 = .ok (.if_icmp .ge 23, 3) := by decide +kernel
theorem dX0_setBars_13 : decode cX0_setBars 13 = .ok (.aload_n 0, 1) := by decide +kernel
theorem dX0_setBars_14 : decode cX0_setBars 14 = .ok (.getfield 26, 3) := by decide +kernel
theorem dX0_setBars_17 : decode cX0_setBars 17 = .ok (.iload_n 3, 1) := by decide +kernel
theorem dX0_setBars_18 : decode cX0_setBars 18 = .ok (.aload_n 0, 1) := by decide +kernel
theorem dX0_setBars_19 : decode cX0_setBars 19 = .ok (.aload_n 1, 1) := by decide +kernel
theorem dX0_setBars_20 : decode cX0_setBars 20 = .ok (.iload_n 3, 1) := by decide +kernel
theorem dX0_setBars_21 : decode cX0_setBars 21 = .ok (.iload_n 2, 1) := by decide +kernel
theorem dX0_setBars_22 : decode cX0_setBars 22 = .ok (.iload_n 2, 1) := by decide +kernel
theorem dX0_setBars_23 : decode cX0_setBars 23 = .ok (.invokevirtual 118, 3) := by decide +kernel
theorem dX0_setBars_26 : decode cX0_setBars 26 = .ok (.lastore, 1) := by decide +kernel
theorem dX0_setBars_27 : decode cX0_setBars 27 = .ok (.iinc 3 1, 3) := by decide +kernel
theorem dX0_setBars_30 : decode cX0_setBars 30 = .ok (.goto (-28), 3) := by decide +kernel
theorem dX0_setBars_33 : decode cX0_setBars 33 = .ok (.return_, 1) := by decide +kernel
theorem dX0_howManyAboveBars_0 : decode cX0_howManyAboveBars 0 = .ok (.iconst 0, 1) := by decide +kernel
theorem dX0_howManyAboveBars_1 : decode cX0_howManyAboveBars 1 = .ok (.istore_n 3, 1) := by decide +kernel
theorem dX0_howManyAboveBars_2 : decode cX0_howManyAboveBars 2 = .ok (.iconst 0, 1) := by decide +kernel
theorem dX0_howManyAboveBars_3 : decode cX0_howManyAboveBars 3 = .ok (.istore 4, 2) := by decide +kernel
theorem dX0_howManyAboveBars_5 : decode cX0_howManyAboveBars 5 = .ok (.iload 4, 2) := by decide +kernel
theorem dX0_howManyAboveBars_7 : decode cX0_howManyAboveBars 7 = .ok (.aload_n 0, 1) := by decide +kernel
theorem dX0_howManyAboveBars_8 : decode cX0_howManyAboveBars 8 = .ok (.getfield 9, 3) := by decide +kernel
theorem dX0_howManyAboveBars_11 : decode cX0_howManyAboveBars 11 = .ok (.getfield 35, 3) := by decide +kernel
theorem dX0_howManyAboveBars_14 : decode cX0_howManyAboveBars 14 = .ok (.if_icmp .ge 38, 3) := by decide +kernel
theorem dX0_howManyAboveBars_17 : decode cX0_howManyAboveBars 17 = .ok (.iload_n 2, 1) := by decide +kernel
theorem dX0_howManyAboveBars_18 : decode cX0_howManyAboveBars 18 = .ok (.i2l, 1) := by decide +kernel
theorem dX0_howManyAboveBars_19 : decode cX0_howManyAboveBars 19 = .ok (.aload_n 0, 1) := by decide +kernel
theorem dX0_howManyAboveBars_20 : decode cX0_howManyAboveBars 20 = .ok (.getfield 23, 3) := by decide +kernel
theorem dX0_howManyAboveBars_23 : decode cX0_howManyAboveBars 23 = .ok (.iload_n 1, 1) := by decide +kernel
theorem dX0_howManyAboveBars_24 : decode cX0_howManyAboveBars 24 = .ok (.bipush 30, 2) := by decide +kernel
theorem dX0_howManyAboveBars_26 : decode cX0_howManyAboveBars 26 = .ok (.imul, 1) := by decide +kernel
theorem dX0_howManyAboveBars_27 : decode cX0_howManyAboveBars 27 = .ok (.iload 4, 2) := by decide +kernel
theorem dX0_howManyAboveBars_29 : decode cX0_howManyAboveBars 29 = .ok (.iadd, 1) := by decide +kernel
theorem dX0_howManyAboveBars_30 : decode cX0_howManyAboveBars 30 = .ok (.laload, 1) := by decide +kernel
theorem dX0_howManyAboveBars_31 : decode cX0_howManyAboveBars 31 = .ok (.lmul, 1) := by decide +kernel
theorem dX0_howManyAboveBars_32 : decode cX0_howManyAboveBars 32 = .ok (.aload_n 0, 1) := by decide +kernel
theorem dX0_howManyAboveBars_33 : decode cX0_howManyAboveBars 33 = .ok (.getfield 26, 3) := by decide +kernel
theorem dX0_howManyAboveBars_36 : decode cX0_howManyAboveBars 36 = .ok (.iload 4, 2) := by decide +kernel
theorem dX0_howManyAboveBars_38 : decode cX0_howManyAboveBars 38 = .ok (.laload, 1) := by decide +kernel
theorem dX0_howManyAboveBars_39 : decode cX0_howManyAboveBars 39 = .ok (.lcmp, 1) := by decide +kernel
theorem dX0_howManyAboveBars_40 : decode cX0_howManyAboveBars 40 = .ok (.ifCond .le 6, 3) := by decide +kernel
theorem dX0_howManyAboveBars_43 : decode cX0_howManyAboveBars 43 = .ok (.iinc 3 1, 3) := by decide +kernel
theorem dX0_howManyAboveBars_46 : decode cX0_howManyAboveBars 46 = .ok (.iinc 4 1, 3) := by decide +kernel
theorem dX0_howManyAboveBars_49 : decode cX0_howManyAboveBars 49 = .ok (.goto (-44), 3) := by decide +kernel
theorem dX0_howManyAboveBars_52 : decode cX0_howManyAboveBars 52 = .ok (.iload_n 3, 1) := by decide +kernel
theorem dX0_howManyAboveBars_53 : decode cX0_howManyAboveBars 53 = .ok (.ireturn, 1) := by decide +kernel
theorem dX0_ownOfNewIn_0 : decode cX0_ownOfNewIn 0 = .ok (.iconst 0, 1) := by decide +kernel
theorem dX0_ownOfNewIn_1 : decode cX0_ownOfNewIn 1 = .ok (.istore 5, 2) := by decide +kernel
theorem dX0_ownOfNewIn_3 : decode cX0_ownOfNewIn 3 = .ok (.iconst 0, 1) := by decide +kernel
theorem dX0_ownOfNewIn_4 : decode cX0_ownOfNewIn 4 = .ok (.istore 6, 2) := by decide +kernel
theorem dX0_ownOfNewIn_6 : decode cX0_ownOfNewIn 6 = .ok (.iload 6, 2) := by decide +kernel
theorem dX0_ownOfNewIn_8 : decode cX0_ownOfNewIn 8 = .ok (.aload_n 0, 1) := by decide +kernel
theorem dX0_ownOfNewIn_9 : decode cX0_ownOfNewIn 9 = .ok (.getfield 9, 3) := by decide +kernel
theorem dX0_ownOfNewIn_12 : decode cX0_ownOfNewIn 12 = .ok (.getfield 35, 3) := by decide +kernel
theorem dX0_ownOfNewIn_15 : decode cX0_ownOfNewIn 15 = .ok (.if_icmp .ge 43, 3) := by decide +kernel
theorem dX0_ownOfNewIn_18 : decode cX0_ownOfNewIn 18 = .ok (.iload_n 3, 1) := by decide +kernel
theorem dX0_ownOfNewIn_19 : decode cX0_ownOfNewIn 19 = .ok (.i2l, 1) := by decide +kernel
theorem dX0_ownOfNewIn_20 : decode cX0_ownOfNewIn 20 = .ok (.aload_n 0, 1) := by decide +kernel
theorem dX0_ownOfNewIn_21 : decode cX0_ownOfNewIn 21 = .ok (.aload_n 0, 1) := by decide +kernel
theorem dX0_ownOfNewIn_22 : decode cX0_ownOfNewIn 22 = .ok (.iload_n 2, 1) := by decide +kernel
theorem dX0_ownOfNewIn_23 : decode cX0_ownOfNewIn 23 = .ok (.iload_n 1, 1) := by decide +kernel
theorem dX0_ownOfNewIn_24 : decode cX0_ownOfNewIn 24 = .ok (.iload 6, 2) := by decide +kernel
theorem dX0_ownOfNewIn_26 : decode cX0_ownOfNewIn 26 = .ok (.invokevirtual 50, 3) := by decide +kernel
theorem dX0_ownOfNewIn_29 : decode cX0_ownOfNewIn 29 = .ok (.iload_n 1, 1) := by decide +kernel
theorem dX0_ownOfNewIn_30 : decode cX0_ownOfNewIn 30 = .ok (.iload 6, 2) := by decide +kernel
theorem dX0_ownOfNewIn_32 : decode cX0_ownOfNewIn 32 = .ok (.iload 4, 2) := by decide +kernel
theorem dX0_ownOfNewIn_34 : decode cX0_ownOfNewIn 34 = .ok (.invokevirtual 91, 3) := by decide +kernel
theorem dX0_ownOfNewIn_37 : decode cX0_ownOfNewIn 37 = .ok (.lmul, 1) := by decide +kernel
theorem dX0_ownOfNewIn_38 : decode cX0_ownOfNewIn 38 = .ok (.aload_n 0, 1) := by decide +kernel
theorem dX0_ownOfNewIn_39 : decode cX0_ownOfNewIn 39 = .ok (.getfield 26, 3) := by decide +kernel
theorem dX0_ownOfNewIn_42 : decode cX0_ownOfNewIn 42 = .ok (.iload 6, 2) := by decide +kernel
theorem dX0_ownOfNewIn_44 : decode cX0_ownOfNewIn 44 = .ok (.laload, 1) := by decide +kernel
theorem dX0_ownOfNewIn_45 : decode cX0_ownOfNewIn 45 = .ok (.lcmp, 1) := by decide +kernel
theorem dX0_ownOfNewIn_46 : decode cX0_ownOfNewIn 46 = .ok (.ifCond .le 6, 3) := by decide +kernel
theorem dX0_ownOfNewIn_49 : decode cX0_ownOfNewIn 49 = .ok (.iinc 5 1, 3) := by decide +kernel
theorem dX0_ownOfNewIn_52 : decode cX0_ownOfNewIn 52 = .ok (.iinc 6 1, 3) := by decide +kernel
theorem dX0_ownOfNewIn_55 : decode cX0_ownOfNewIn 55 = .ok (.goto (-49), 3) := by decide +kernel
theorem dX0_ownOfNewIn_58 : decode cX0_ownOfNewIn 58 = .ok (.iload 5, 2) := by decide +kernel
theorem dX0_ownOfNewIn_60 : decode cX0_ownOfNewIn 60 = .ok (.ireturn, 1) := by decide +kernel
theorem dX0_ownOf_0 : decode cX0_ownOf 0 = .ok (.iconst 0, 1) := by decide +kernel
theorem dX0_ownOf_1 : decode cX0_ownOf 1 = .ok (.istore_n 2, 1) := by decide +kernel
theorem dX0_ownOf_2 : decode cX0_ownOf 2 = .ok (.iconst 0, 1) := by decide +kernel
theorem dX0_ownOf_3 : decode cX0_ownOf 3 = .ok (.istore_n 3, 1) := by decide +kernel
theorem dX0_ownOf_4 : decode cX0_ownOf 4 = .ok (.iload_n 3, 1) := by decide +kernel
theorem dX0_ownOf_5 : decode cX0_ownOf 5 = .ok (.aload_n 0, 1) := by decide +kernel
theorem dX0_ownOf_6 : decode cX0_ownOf 6 = .ok (.getfield 9, 3) := by decide +kernel
theorem dX0_ownOf_9 : decode cX0_ownOf 9 = .ok (.getfield 35, 3) := by decide +kernel
theorem dX0_ownOf_12 : decode cX0_ownOf 12 = .ok (.if_icmp .ge 39, 3) := by decide +kernel
theorem dX0_ownOf_15 : decode cX0_ownOf 15 = .ok (.aload_n 0, 1) := by decide +kernel
theorem dX0_ownOf_16 : decode cX0_ownOf 16 = .ok (.iload_n 1, 1) := by decide +kernel
theorem dX0_ownOf_17 : decode cX0_ownOf 17 = .ok (.iload_n 3, 1) := by decide +kernel
theorem dX0_ownOf_18 : decode cX0_ownOf 18 = .ok (.invokevirtual 108, 3) := by decide +kernel
theorem dX0_ownOf_21 : decode cX0_ownOf 21 = .ok (.aload_n 0, 1) := by decide +kernel
theorem dX0_ownOf_22 : decode cX0_ownOf 22 = .ok (.aload_n 0, 1) := by decide +kernel
theorem dX0_ownOf_23 : decode cX0_ownOf 23 = .ok (.getfield 15, 3) := by decide +kernel
theorem dX0_ownOf_26 : decode cX0_ownOf 26 = .ok (.getfield 105, 3) := by decide +kernel
theorem dX0_ownOf_29 : decode cX0_ownOf 29 = .ok (.iload_n 3, 1) := by decide +kernel
theorem dX0_ownOf_30 : decode cX0_ownOf 30 = .ok (.iload_n 1, 1) := by decide +kernel
theorem dX0_ownOf_31 : decode cX0_ownOf 31 = .ok (.iload_n 1, 1) := by decide +kernel
theorem dX0_ownOf_32 : decode cX0_ownOf 32 = .ok (.invokevirtual 118, 3) := by decide +kernel
theorem dX0_ownOf_35 : decode cX0_ownOf 35 = .ok (.lcmp, 1) := by decide +kernel
theorem dX0_ownOf_36 : decode cX0_ownOf 36 = .ok (.ifCond .le 9, 3) := by decide +kernel
theorem dX0_ownOf_39 : decode cX0_ownOf 39 = .ok (.iload_n 2, 1) := by decide +kernel
theorem dX0_ownOf_40 : decode cX0_ownOf 40 = .ok (.iconst 1, 1) := by decide +kernel
theorem dX0_ownOf_41 : decode cX0_ownOf 41 = .ok (.iload_n 3, 1) := by decide +kernel
theorem dX0_ownOf_42 : decode cX0_ownOf 42 = .ok (.ishl, 1) := by decide +kernel
theorem dX0_ownOf_43 : decode cX0_ownOf 43 = .ok (.ior, 1) := by decide +kernel
theorem dX0_ownOf_44 : decode cX0_ownOf 44 = .ok (.istore_n 2, 1) := by decide +kernel
theorem dX0_ownOf_45 : decode cX0_ownOf 45 = .ok (.iinc 3 1, 3) := by decide +kernel
theorem dX0_ownOf_48 : decode cX0_ownOf 48 = .ok (.goto (-44), 3) := by decide +kernel
theorem dX0_ownOf_51 : decode cX0_ownOf 51 = .ok (.iload_n 2, 1) := by decide +kernel
theorem dX0_ownOf_52 : decode cX0_ownOf 52 = .ok (.ireturn, 1) := by decide +kernel
theorem dX0_ownOfBoth_0 : decode cX0_ownOfBoth 0 = .ok (.iconst 0, 1) := by decide +kernel
theorem dX0_ownOfBoth_1 : decode cX0_ownOfBoth 1 = .ok (.istore_n 3, 1) := by decide +kernel
theorem dX0_ownOfBoth_2 : decode cX0_ownOfBoth 2 = .ok (.iconst 0, 1) := by decide +kernel
theorem dX0_ownOfBoth_3 : decode cX0_ownOfBoth 3 = .ok (.istore 4, 2) := by decide +kernel
theorem dX0_ownOfBoth_5 : decode cX0_ownOfBoth 5 = .ok (.iload 4, 2) := by decide +kernel
theorem dX0_ownOfBoth_7 : decode cX0_ownOfBoth 7 = .ok (.aload_n 0, 1) := by decide +kernel
theorem dX0_ownOfBoth_8 : decode cX0_ownOfBoth 8 = .ok (.getfield 9, 3) := by decide +kernel
theorem dX0_ownOfBoth_11 : decode cX0_ownOfBoth 11 = .ok (.getfield 35, 3) := by decide +kernel
theorem dX0_ownOfBoth_14 : decode cX0_ownOfBoth 14 = .ok (.if_icmp .ge 50, 3) := by decide +kernel
theorem dX0_ownOfBoth_17 : decode cX0_ownOfBoth 17 = .ok (.aload_n 0, 1) := by decide +kernel
theorem dX0_ownOfBoth_18 : decode cX0_ownOfBoth 18 = .ok (.iload_n 1, 1) := by decide +kernel
theorem dX0_ownOfBoth_19 : decode cX0_ownOfBoth 19 = .ok (.iload 4, 2) := by decide +kernel
theorem dX0_ownOfBoth_21 : decode cX0_ownOfBoth 21 = .ok (.invokevirtual 108, 3) := by decide +kernel
theorem dX0_ownOfBoth_24 : decode cX0_ownOfBoth 24 = .ok (.aload_n 0, 1) := by decide +kernel
theorem dX0_ownOfBoth_25 : decode cX0_ownOfBoth 25 = .ok (.iload_n 2, 1) := by decide +kernel
theorem dX0_ownOfBoth_26 : decode cX0_ownOfBoth 26 = .ok (.iload 4, 2) := by decide +kernel
theorem dX0_ownOfBoth_28 : decode cX0_ownOfBoth 28 = .ok (.invokevirtual 108, 3) := by decide +kernel
theorem dX0_ownOfBoth_31 : decode cX0_ownOfBoth 31 = .ok (.ladd, 1) := by decide +kernel
theorem dX0_ownOfBoth_32 : decode cX0_ownOfBoth 32 = .ok (.aload_n 0, 1) := by decide +kernel
theorem dX0_ownOfBoth_33 : decode cX0_ownOfBoth 33 = .ok (.aload_n 0, 1) := by decide +kernel
theorem dX0_ownOfBoth_34 : decode cX0_ownOfBoth 34 = .ok (.getfield 15, 3) := by decide +kernel
theorem dX0_ownOfBoth_37 : decode cX0_ownOfBoth 37 = .ok (.getfield 105, 3) := by decide +kernel
theorem dX0_ownOfBoth_40 : decode cX0_ownOfBoth 40 = .ok (.iload 4, 2) := by decide +kernel
theorem dX0_ownOfBoth_42 : decode cX0_ownOfBoth 42 = .ok (.iload_n 1, 1) := by decide +kernel
theorem dX0_ownOfBoth_43 : decode cX0_ownOfBoth 43 = .ok (.iload_n 2, 1) := by decide +kernel
theorem dX0_ownOfBoth_44 : decode cX0_ownOfBoth 44 = .ok (.invokevirtual 118, 3) := by decide +kernel
theorem dX0_ownOfBoth_47 : decode cX0_ownOfBoth 47 = .ok (.lcmp, 1) := by decide +kernel
theorem dX0_ownOfBoth_48 : decode cX0_ownOfBoth 48 = .ok (.ifCond .le 10, 3) := by decide +kernel
theorem dX0_ownOfBoth_51 : decode cX0_ownOfBoth 51 = .ok (.iload_n 3, 1) := by decide +kernel
theorem dX0_ownOfBoth_52 : decode cX0_ownOfBoth 52 = .ok (.iconst 1, 1) := by decide +kernel
theorem dX0_ownOfBoth_53 : decode cX0_ownOfBoth 53 = .ok (.iload 4, 2) := by decide +kernel
theorem dX0_ownOfBoth_55 : decode cX0_ownOfBoth 55 = .ok (.ishl, 1) := by decide +kernel
theorem dX0_ownOfBoth_56 : decode cX0_ownOfBoth 56 = .ok (.ior, 1) := by decide +kernel
theorem dX0_ownOfBoth_57 : decode cX0_ownOfBoth 57 = .ok (.istore_n 3, 1) := by decide +kernel
theorem dX0_ownOfBoth_58 : decode cX0_ownOfBoth 58 = .ok (.iinc 4 1, 3) := by decide +kernel
theorem dX0_ownOfBoth_61 : decode cX0_ownOfBoth 61 = .ok (.goto (-56), 3) := by decide +kernel
theorem dX0_ownOfBoth_64 : decode cX0_ownOfBoth 64 = .ok (.iload_n 3, 1) := by decide +kernel
theorem dX0_ownOfBoth_65 : decode cX0_ownOfBoth 65 = .ok (.ireturn, 1) := by decide +kernel
theorem dX0_leastToOwn_0 : decode cX0_leastToOwn 0 = .ok (.aload_n 0, 1) := by decide +kernel
theorem dX0_leastToOwn_1 : decode cX0_leastToOwn 1 = .ok (.aload_n 0, 1) := by decide +kernel
theorem dX0_leastToOwn_2 : decode cX0_leastToOwn 2 = .ok (.getfield 15, 3) := by decide +kernel
theorem dX0_leastToOwn_5 : decode cX0_leastToOwn 5 = .ok (.getfield 105, 3) := by decide +kernel
theorem dX0_leastToOwn_8 : decode cX0_leastToOwn 8 = .ok (.iload_n 2, 1) := by decide +kernel
theorem dX0_leastToOwn_9 : decode cX0_leastToOwn 9 = .ok (.iload_n 1, 1) := by decide +kernel
theorem dX0_leastToOwn_10 : decode cX0_leastToOwn 10 = .ok (.iload_n 1, 1) := by decide +kernel
theorem dX0_leastToOwn_11 : decode cX0_leastToOwn 11 = .ok (.invokevirtual 118, 3) := by decide +kernel
theorem dX0_leastToOwn_14 : decode cX0_leastToOwn 14 = .ok (.lstore_n 3, 1) := by decide +kernel
theorem dX0_leastToOwn_15 : decode cX0_leastToOwn 15 = .ok (.aload_n 0, 1) := by decide +kernel
theorem dX0_leastToOwn_16 : decode cX0_leastToOwn 16 = .ok (.getfield 23, 3) := by decide +kernel
theorem dX0_leastToOwn_19 : decode cX0_leastToOwn 19 = .ok (.iload_n 1, 1) := by decide +kernel
theorem dX0_leastToOwn_20 : decode cX0_leastToOwn 20 = .ok (.bipush 30, 2) := by decide +kernel
theorem dX0_leastToOwn_22 : decode cX0_leastToOwn 22 = .ok (.imul, 1) := by decide +kernel
theorem dX0_leastToOwn_23 : decode cX0_leastToOwn 23 = .ok (.iload_n 2, 1) := by decide +kernel
theorem dX0_leastToOwn_24 : decode cX0_leastToOwn 24 = .ok (.iadd, 1) := by decide +kernel
theorem dX0_leastToOwn_25 : decode cX0_leastToOwn 25 = .ok (.laload, 1) := by decide +kernel
theorem dX0_leastToOwn_26 : decode cX0_leastToOwn 26 = .ok (.lstore 5, 2) := by decide +kernel
theorem dX0_leastToOwn_28 : decode cX0_leastToOwn 28 = .ok (.iconst 1, 1) := by decide +kernel
theorem dX0_leastToOwn_29 : decode cX0_leastToOwn 29 = .ok (.istore 7, 2) := by decide +kernel
theorem dX0_leastToOwn_31 : decode cX0_leastToOwn 31 = .ok (.iload 7, 2) := by decide +kernel
theorem dX0_leastToOwn_33 : decode cX0_leastToOwn 33 = .ok (.bipush 99, 2) := by decide +kernel
theorem dX0_leastToOwn_35 : decode cX0_leastToOwn 35 = .ok (.if_icmp .gt 23, 3) := by decide +kernel
theorem dX0_leastToOwn_38 : decode cX0_leastToOwn 38 = .ok (.iload 7, 2) := by decide +kernel
theorem dX0_leastToOwn_40 : decode cX0_leastToOwn 40 = .ok (.i2l, 1) := by decide +kernel
theorem dX0_leastToOwn_41 : decode cX0_leastToOwn 41 = .ok (.lload 5, 2) := by decide +kernel
theorem dX0_leastToOwn_43 : decode cX0_leastToOwn 43 = .ok (.lmul, 1) := by decide +kernel
theorem dX0_leastToOwn_44 : decode cX0_leastToOwn 44 = .ok (.lload_n 3, 1) := by decide +kernel
theorem dX0_leastToOwn_45 : decode cX0_leastToOwn 45 = .ok (.lcmp, 1) := by decide +kernel
theorem dX0_leastToOwn_46 : decode cX0_leastToOwn 46 = .ok (.ifCond .le 6, 3) := by decide +kernel
theorem dX0_leastToOwn_49 : decode cX0_leastToOwn 49 = .ok (.iload 7, 2) := by decide +kernel
theorem dX0_leastToOwn_51 : decode cX0_leastToOwn 51 = .ok (.ireturn, 1) := by decide +kernel
theorem dX0_leastToOwn_52 : decode cX0_leastToOwn 52 = .ok (.iinc 7 1, 3) := by decide +kernel
theorem dX0_leastToOwn_55 : decode cX0_leastToOwn 55 = .ok (.goto (-24), 3) := by decide +kernel
theorem dX0_leastToOwn_58 : decode cX0_leastToOwn 58 = .ok (.bipush (-9), 2) := by decide +kernel
theorem dX0_leastToOwn_60 : decode cX0_leastToOwn 60 = .ok (.ireturn, 1) := by decide +kernel
theorem dX0_heardIn_0 : decode cX0_heardIn 0 = .ok (.iconst 0, 1) := by decide +kernel
theorem dX0_heardIn_1 : decode cX0_heardIn 1 = .ok (.istore_n 2, 1) := by decide +kernel
theorem dX0_heardIn_2 : decode cX0_heardIn 2 = .ok (.iconst 0, 1) := by decide +kernel
theorem dX0_heardIn_3 : decode cX0_heardIn 3 = .ok (.istore_n 3, 1) := by decide +kernel
theorem dX0_heardIn_4 : decode cX0_heardIn 4 = .ok (.iload_n 3, 1) := by decide +kernel
theorem dX0_heardIn_5 : decode cX0_heardIn 5 = .ok (.aload_n 0, 1) := by decide +kernel
theorem dX0_heardIn_6 : decode cX0_heardIn 6 = .ok (.getfield 9, 3) := by decide +kernel
theorem dX0_heardIn_9 : decode cX0_heardIn 9 = .ok (.getfield 35, 3) := by decide +kernel
theorem dX0_heardIn_12 : decode cX0_heardIn 12 = .ok (.if_icmp .ge 29, 3) := by decide +kernel
theorem dX0_heardIn_15 : decode cX0_heardIn 15 = .ok (.aload_n 0, 1) := by decide +kernel
theorem dX0_heardIn_16 : decode cX0_heardIn 16 = .ok (.iload_n 1, 1) := by decide +kernel
theorem dX0_heardIn_17 : decode cX0_heardIn 17 = .ok (.iload_n 3, 1) := by decide +kernel
theorem dX0_heardIn_18 : decode cX0_heardIn 18 = .ok (.invokevirtual 108, 3) := by decide +kernel
theorem dX0_heardIn_21 : decode cX0_heardIn 21 = .ok (.aload_n 0, 1) := by decide +kernel
theorem dX0_heardIn_22 : decode cX0_heardIn 22 = .ok (.getfield 101, 3) := by decide +kernel
theorem dX0_heardIn_25 : decode cX0_heardIn 25 = .ok (.lcmp, 1) := by decide +kernel
theorem dX0_heardIn_26 : decode cX0_heardIn 26 = .ok (.ifCond .lt 9, 3) := by decide +kernel
theorem dX0_heardIn_29 : decode cX0_heardIn 29 = .ok (.iload_n 2, 1) := by decide +kernel
theorem dX0_heardIn_30 : decode cX0_heardIn 30 = .ok (.iconst 1, 1) := by decide +kernel
theorem dX0_heardIn_31 : decode cX0_heardIn 31 = .ok (.iload_n 3, 1) := by decide +kernel
theorem dX0_heardIn_32 : decode cX0_heardIn 32 = .ok (.ishl, 1) := by decide +kernel
theorem dX0_heardIn_33 : decode cX0_heardIn 33 = .ok (.ior, 1) := by decide +kernel
theorem dX0_heardIn_34 : decode cX0_heardIn 34 = .ok (.istore_n 2, 1) := by decide +kernel
theorem dX0_heardIn_35 : decode cX0_heardIn 35 = .ok (.iinc 3 1, 3) := by decide +kernel
theorem dX0_heardIn_38 : decode cX0_heardIn 38 = .ok (.goto (-34), 3) := by decide +kernel
theorem dX0_heardIn_41 : decode cX0_heardIn 41 = .ok (.iload_n 2, 1) := by decide +kernel
theorem dX0_heardIn_42 : decode cX0_heardIn 42 = .ok (.ireturn, 1) := by decide +kernel
theorem dX1_init_0 : decode cX1_init 0 = .ok (.aload_n 0, 1) := by decide +kernel
theorem dX1_init_1 : decode cX1_init 1 = .ok (.invokespecial 3, 3) := by decide +kernel
theorem dX1_init_4 : decode cX1_init 4 = .ok (.aload_n 0, 1) := by decide +kernel
theorem dX1_init_5 : decode cX1_init 5 = .ok (.bipush 6, 2) := by decide +kernel
theorem dX1_init_7 : decode cX1_init 7 = .ok (.newarray .int, 2) := by decide +kernel
theorem dX1_init_9 : decode cX1_init 9 = .ok (.putfield 9, 3) := by decide +kernel
theorem dX1_init_12 : decode cX1_init 12 = .ok (.aload_n 0, 1) := by decide +kernel
theorem dX1_init_13 : decode cX1_init 13 = .ok (.bipush 6, 2) := by decide +kernel
theorem dX1_init_15 : decode cX1_init 15 = .ok (.newarray .int, 2) := by decide +kernel
theorem dX1_init_17 : decode cX1_init 17 = .ok (.putfield 15, 3) := by decide +kernel
theorem dX1_init_20 : decode cX1_init 20 = .ok (.aload_n 0, 1) := by decide +kernel
theorem dX1_init_21 : decode cX1_init 21 = .ok (.bipush 6, 2) := by decide +kernel
theorem dX1_init_23 : decode cX1_init 23 = .ok (.newarray .int, 2) := by decide +kernel
theorem dX1_init_25 : decode cX1_init 25 = .ok (.putfield 18, 3) := by decide +kernel
theorem dX1_init_28 : decode cX1_init 28 = .ok (.return_, 1) := by decide +kernel
theorem dX1_add_0 : decode cX1_add 0 = .ok (.aload_n 0, 1) := by decide +kernel
theorem dX1_add_1 : decode cX1_add 1 = .ok (.getfield 21, 3) := by decide +kernel
theorem dX1_add_4 : decode cX1_add 4 = .ok (.istore 4, 2) := by decide +kernel
theorem dX1_add_6 : decode cX1_add 6 = .ok (.aload_n 0, 1) := by decide +kernel
theorem dX1_add_7 : decode cX1_add 7 = .ok (.getfield 9, 3) := by decide +kernel
theorem dX1_add_10 : decode cX1_add 10 = .ok (.iload 4, 2) := by decide +kernel
theorem dX1_add_12 : decode cX1_add 12 = .ok (.iload_n 1, 1) := by decide +kernel
theorem dX1_add_13 : decode cX1_add 13 = .ok (.iastore, 1) := by decide +kernel
theorem dX1_add_14 : decode cX1_add 14 = .ok (.aload_n 0, 1) := by decide +kernel
theorem dX1_add_15 : decode cX1_add 15 = .ok (.getfield 15, 3) := by decide +kernel
theorem dX1_add_18 : decode cX1_add 18 = .ok (.iload 4, 2) := by decide +kernel
theorem dX1_add_20 : decode cX1_add 20 = .ok (.iload_n 2, 1) := by decide +kernel
theorem dX1_add_21 : decode cX1_add 21 = .ok (.iastore, 1) := by decide +kernel
theorem dX1_add_22 : decode cX1_add 22 = .ok (.aload_n 0, 1) := by decide +kernel
theorem dX1_add_23 : decode cX1_add 23 = .ok (.getfield 18, 3) := by decide +kernel
theorem dX1_add_26 : decode cX1_add 26 = .ok (.iload 4, 2) := by decide +kernel
theorem dX1_add_28 : decode cX1_add 28 = .ok (.iload_n 3, 1) := by decide +kernel
theorem dX1_add_29 : decode cX1_add 29 = .ok (.iastore, 1) := by decide +kernel
theorem dX1_add_30 : decode cX1_add 30 = .ok (.aload_n 0, 1) := by decide +kernel
theorem dX1_add_31 : decode cX1_add 31 = .ok (.iload 4, 2) := by decide +kernel
theorem dX1_add_33 : decode cX1_add 33 = .ok (.iconst 1, 1) := by decide +kernel
theorem dX1_add_34 : decode cX1_add 34 = .ok (.iadd, 1) := by decide +kernel
theorem dX1_add_35 : decode cX1_add 35 = .ok (.putfield 21, 3) := by decide +kernel
theorem dX1_add_38 : decode cX1_add 38 = .ok (.iload 4, 2) := by decide +kernel
theorem dX1_add_40 : decode cX1_add 40 = .ok (.ireturn, 1) := by decide +kernel
theorem dX1_howManyIn_0 : decode cX1_howManyIn 0 = .ok (.iconst 0, 1) := by decide +kernel
theorem dX1_howManyIn_1 : decode cX1_howManyIn 1 = .ok (.istore_n 2, 1) := by decide +kernel
theorem dX1_howManyIn_2 : decode cX1_howManyIn 2 = .ok (.iconst 0, 1) := by decide +kernel
theorem dX1_howManyIn_3 : decode cX1_howManyIn 3 = .ok (.istore_n 3, 1) := by decide +kernel
theorem dX1_howManyIn_4 : decode cX1_howManyIn 4 = .ok (.iload_n 3, 1) := by decide +kernel
theorem dX1_howManyIn_5 : decode cX1_howManyIn 5 = .ok (.aload_n 0, 1) := by decide +kernel
theorem dX1_howManyIn_6 : decode cX1_howManyIn 6 = .ok (.getfield 21, 3) := by decide +kernel
theorem dX1_howManyIn_9 : decode cX1_howManyIn 9 = .ok (.if_icmp .ge 22, 3) := by decide +kernel
theorem dX1_howManyIn_12 : decode cX1_howManyIn 12 = .ok (.aload_n 0, 1) := by decide +kernel
theorem dX1_howManyIn_13 : decode cX1_howManyIn 13 = .ok (.getfield 15, 3) := by decide +kernel
theorem dX1_howManyIn_16 : decode cX1_howManyIn 16 = .ok (.iload_n 3, 1) := by decide +kernel
theorem dX1_howManyIn_17 : decode cX1_howManyIn 17 = .ok (.iaload, 1) := by decide +kernel
theorem dX1_howManyIn_18 : decode cX1_howManyIn 18 = .ok (.iload_n 1, 1) := by decide +kernel
theorem dX1_howManyIn_19 : decode cX1_howManyIn 19 = .ok (.if_icmp .ne 6, 3) := by decide +kernel
theorem dX1_howManyIn_22 : decode cX1_howManyIn 22 = .ok (.iinc 2 1, 3) := by decide +kernel
theorem dX1_howManyIn_25 : decode cX1_howManyIn 25 = .ok (.iinc 3 1, 3) := by decide +kernel
theorem dX1_howManyIn_28 : decode cX1_howManyIn 28 = .ok (.goto (-24), 3) := by decide +kernel
theorem dX1_howManyIn_31 : decode cX1_howManyIn 31 = .ok (.iload_n 2, 1) := by decide +kernel
theorem dX1_howManyIn_32 : decode cX1_howManyIn 32 = .ok (.ireturn, 1) := by decide +kernel
theorem dX1_cellsWithBells_0 : decode cX1_cellsWithBells 0 = .ok (.iconst 0, 1) := by decide +kernel
theorem dX1_cellsWithBells_1 : decode cX1_cellsWithBells 1 = .ok (.istore_n 1, 1) := by decide +kernel
theorem dX1_cellsWithBells_2 : decode cX1_cellsWithBells 2 = .ok (.iconst 0, 1) := by decide +kernel
theorem dX1_cellsWithBells_3 : decode cX1_cellsWithBells 3 = .ok (.istore_n 2, 1) := by decide +kernel
theorem dX1_cellsWithBells_4 : decode cX1_cellsWithBells 4 = .ok (.iload_n 2, 1) := by decide +kernel
theorem dX1_cellsWithBells_5 : decode cX1_cellsWithBells 5 = .ok (.aload_n 0, 1) := by decide +kernel
theorem dX1_cellsWithBells_6 : decode cX1_cellsWithBells 6 = .ok (.getfield 21, 3) := by decide +kernel
theorem dX1_cellsWithBells_9 : decode cX1_cellsWithBells 9 = .ok (.if_icmp .ge 20, 3) := by decide +kernel
theorem dX1_cellsWithBells_12 : decode cX1_cellsWithBells 12 = .ok (.iload_n 1, 1) := by decide +kernel
theorem dX1_cellsWithBells_13 : decode cX1_cellsWithBells 13 = .ok (.iconst 1, 1) := by decide +kernel
theorem dX1_cellsWithBells_14 : decode cX1_cellsWithBells 14 = .ok (.aload_n 0, 1) := by decide +kernel
theorem dX1_cellsWithBells_15 : decode cX1_cellsWithBells 15 = .ok (.getfield 15, 3) := by decide +kernel
theorem dX1_cellsWithBells_18 : decode cX1_cellsWithBells 18 = .ok (.iload_n 2, 1) := by decide +kernel
theorem dX1_cellsWithBells_19 : decode cX1_cellsWithBells 19 = .ok (.iaload, 1) := by decide +kernel
theorem dX1_cellsWithBells_20 : decode cX1_cellsWithBells 20 = .ok (.ishl, 1) := by decide +kernel
theorem dX1_cellsWithBells_21 : decode cX1_cellsWithBells 21 = .ok (.ior, 1) := by decide +kernel
theorem dX1_cellsWithBells_22 : decode cX1_cellsWithBells 22 = .ok (.istore_n 1, 1) := by decide +kernel
theorem dX1_cellsWithBells_23 : decode cX1_cellsWithBells 23 = .ok (.iinc 2 1, 3) := by decide +kernel
theorem dX1_cellsWithBells_26 : decode cX1_cellsWithBells 26 = .ok (.goto (-22), 3) := by decide +kernel
theorem dX1_cellsWithBells_29 : decode cX1_cellsWithBells 29 = .ok (.iload_n 1, 1) := by decide +kernel
theorem dX1_cellsWithBells_30 : decode cX1_cellsWithBells 30 = .ok (.ireturn, 1) := by decide +kernel
theorem dX2_init_0 : decode cX2_init 0 = .ok (.aload_n 0, 1) := by decide +kernel
theorem dX2_init_1 : decode cX2_init 1 = .ok (.invokespecial 3, 3) := by decide +kernel
theorem dX2_init_4 : decode cX2_init 4 = .ok (.aload_n 0, 1) := by decide +kernel
theorem dX2_init_5 : decode cX2_init 5 = .ok (.aload_n 1, 1) := by decide +kernel
theorem dX2_init_6 : decode cX2_init 6 = .ok (.putfield 9, 3) := by decide +kernel
theorem dX2_init_9 : decode cX2_init 9 = .ok (.aload_n 0, 1) := by decide +kernel
theorem dX2_init_10 : decode cX2_init 10 = .ok (.aload_n 2, 1) := by decide +kernel
theorem dX2_init_11 : decode cX2_init 11 = .ok (.putfield 15, 3) := by decide +kernel
theorem dX2_init_14 : decode cX2_init 14 = .ok (.aload_n 0, 1) := by decide +kernel
theorem dX2_init_15 : decode cX2_init 15 = .ok (.bipush 6, 2) := by decide +kernel
theorem dX2_init_17 : decode cX2_init 17 = .ok (.newarray .int, 2) := by decide +kernel
theorem dX2_init_19 : decode cX2_init 19 = .ok (.putfield 19, 3) := by decide +kernel
theorem dX2_init_22 : decode cX2_init 22 = .ok (.aload_n 0, 1) := by decide +kernel
theorem dX2_init_23 : decode cX2_init 23 = .ok (.sipush 201, 3) := by decide +kernel
theorem dX2_init_26 : decode cX2_init 26 = .ok (.newarray .long, 2) := by decide +kernel
theorem dX2_init_28 : decode cX2_init 28 = .ok (.putfield 23, 3) := by decide +kernel
theorem dX2_init_31 : decode cX2_init 31 = .ok (.return_, 1) := by decide +kernel
theorem dX2_go_0 : decode cX2_go 0 = .ok (.aload_n 0, 1) := by decide +kernel
theorem dX2_go_1 : decode cX2_go 1 = .ok (.invokevirtual 27, 3) := by decide +kernel
theorem dX2_go_4 : decode cX2_go 4 = .ok (.iconst 0, 1) := by decide +kernel
theorem dX2_go_5 : decode cX2_go 5 = .ok (.istore_n 2, 1) := by decide +kernel
theorem dX2_go_6 : decode cX2_go 6 = .ok (.iload_n 2, 1) := by decide +kernel
theorem dX2_go_7 : decode cX2_go 7 = .ok (.iload_n 1, 1) := by decide +kernel
theorem dX2_go_8 : decode cX2_go 8 = .ok (.if_icmp .ge 13, 3) := by decide +kernel
theorem dX2_go_11 : decode cX2_go 11 = .ok (.aload_n 0, 1) := by decide +kernel
theorem dX2_go_12 : decode cX2_go 12 = .ok (.invokevirtual 30, 3) := by decide +kernel
theorem dX2_go_15 : decode cX2_go 15 = .ok (.iinc 2 1, 3) := by decide +kernel
theorem dX2_go_18 : decode cX2_go 18 = .ok (.goto (-12), 3) := by decide +kernel
theorem dX2_go_21 : decode cX2_go 21 = .ok (.return_, 1) := by decide +kernel
theorem dX2_goUntilRepeated_0 : decode cX2_goUntilRepeated 0 = .ok (.aload_n 0, 1) := by decide +kernel
theorem dX2_goUntilRepeated_1 : decode cX2_goUntilRepeated 1 = .ok (.invokevirtual 27, 3) := by decide +kernel
theorem dX2_goUntilRepeated_4 : decode cX2_goUntilRepeated 4 = .ok (.aload_n 0, 1) := by decide +kernel
theorem dX2_goUntilRepeated_5 : decode cX2_goUntilRepeated 5 = .ok (.getfield 23, 3) := by decide +kernel
theorem dX2_goUntilRepeated_8 : decode cX2_goUntilRepeated 8 = .ok (.iconst 0, 1) := by decide +kernel
theorem dX2_goUntilRepeated_9 : decode cX2_goUntilRepeated 9 = .ok (.aload_n 0, 1) := by decide +kernel
theorem dX2_goUntilRepeated_10 : decode cX2_goUntilRepeated 10 = .ok (.invokevirtual 33, 3) := by decide +kernel
theorem dX2_goUntilRepeated_13 : decode cX2_goUntilRepeated 13 = .ok (.lastore, 1) := by decide +kernel
theorem dX2_goUntilRepeated_14 : decode cX2_goUntilRepeated 14 = .ok (.aload_n 0, 1) := by decide +kernel
theorem dX2_goUntilRepeated_15 : decode cX2_goUntilRepeated 15 = .ok (.bipush (-9), 2) := by decide +kernel
theorem dX2_goUntilRepeated_17 : decode cX2_goUntilRepeated 17 = .ok (.putfield 37, 3) := by decide +kernel
theorem dX2_goUntilRepeated_20 : decode cX2_goUntilRepeated 20 = .ok (.aload_n 0, 1) := by decide +kernel
theorem dX2_goUntilRepeated_21 : decode cX2_goUntilRepeated 21 = .ok (.bipush (-9), 2) := by decide +kernel
theorem dX2_goUntilRepeated_23 : decode cX2_goUntilRepeated 23 = .ok (.putfield 41, 3) := by decide +kernel
theorem dX2_goUntilRepeated_26 : decode cX2_goUntilRepeated 26 = .ok (.iconst 1, 1) := by decide +kernel
theorem dX2_goUntilRepeated_27 : decode cX2_goUntilRepeated 27 = .ok (.istore_n 1, 1) := by decide +kernel
theorem dX2_goUntilRepeated_28 : decode cX2_goUntilRepeated 28 = .ok (.iload_n 1, 1) := by decide +kernel
theorem dX2_goUntilRepeated_29 : decode cX2_goUntilRepeated 29 = .ok (.sipush 200, 3) := by decide +kernel
theorem dX2_goUntilRepeated_32 : decode cX2_goUntilRepeated 32 = .ok (.if_icmp .gt 73, 3) := by decide +kernel
theorem dX2_goUntilRepeated_35 : decode cX2_goUntilRepeated 35 = .ok (.aload_n 0, 1) := by decide +kernel
theorem dX2_goUntilRepeated_36 : decode cX2_goUntilRepeated 36 = .ok (.getfield 41, 3) := by decide +kernel
theorem dX2_goUntilRepeated_39 : decode cX2_goUntilRepeated 39 = .ok (.bipush (-9), 2) := by decide +kernel
theorem dX2_goUntilRepeated_41 : decode cX2_goUntilRepeated 41 = .ok (.if_icmp .ne 64, 3) := by decide +kernel
theorem dX2_goUntilRepeated_44 : decode cX2_goUntilRepeated 44 = .ok (.aload_n 0, 1) := by decide +kernel
theorem dX2_goUntilRepeated_45 : decode cX2_goUntilRepeated 45 = .ok (.invokevirtual 30, 3) := by decide +kernel
theorem dX2_goUntilRepeated_48 : decode cX2_goUntilRepeated 48 = .ok (.aload_n 0, 1) := by decide +kernel
theorem dX2_goUntilRepeated_49 : decode cX2_goUntilRepeated 49 = .ok (.getfield 23, 3) := by decide +kernel
theorem dX2_goUntilRepeated_52 : decode cX2_goUntilRepeated 52 = .ok (.iload_n 1, 1) := by decide +kernel
theorem dX2_goUntilRepeated_53 : decode cX2_goUntilRepeated 53 = .ok (.aload_n 0, 1) := by decide +kernel
theorem dX2_goUntilRepeated_54 : decode cX2_goUntilRepeated 54 = .ok (.invokevirtual 33, 3) := by decide +kernel
theorem dX2_goUntilRepeated_57 : decode cX2_goUntilRepeated 57 = .ok (.lastore, 1) := by decide +kernel
theorem dX2_goUntilRepeated_58 : decode cX2_goUntilRepeated 58 = .ok (.iconst 0, 1) := by decide +kernel
theorem dX2_goUntilRepeated_59 : decode cX2_goUntilRepeated 59 = .ok (.istore_n 2, 1) := by decide +kernel
theorem dX2_goUntilRepeated_60 : decode cX2_goUntilRepeated 60 = .ok (.iload_n 2, 1) := by decide +kernel
theorem dX2_goUntilRepeated_61 : decode cX2_goUntilRepeated 61 = .ok (.iload_n 1, 1) := by decide +kernel
theorem dX2_goUntilRepeated_62 : decode cX2_goUntilRepeated 62 = .ok (.if_icmp .ge 37, 3) := by decide +kernel
theorem dX2_goUntilRepeated_65 : decode cX2_goUntilRepeated 65 = .ok (.aload_n 0, 1) := by decide +kernel
theorem dX2_goUntilRepeated_66 : decode cX2_goUntilRepeated 66 = .ok (.getfield 23, 3) := by decide +kernel
theorem dX2_goUntilRepeated_69 : decode cX2_goUntilRepeated 69 = .ok (.iload_n 2, 1) := by decide +kernel
theorem dX2_goUntilRepeated_70 : decode cX2_goUntilRepeated 70 = .ok (.laload, 1) := by decide +kernel
theorem dX2_goUntilRepeated_71 : decode cX2_goUntilRepeated 71 = .ok (.aload_n 0, 1) := by decide +kernel
theorem dX2_goUntilRepeated_72 : decode cX2_goUntilRepeated 72 = .ok (.getfield 23, 3) := by decide +kernel
theorem dX2_goUntilRepeated_75 : decode cX2_goUntilRepeated 75 = .ok (.iload_n 1, 1) := by decide +kernel
theorem dX2_goUntilRepeated_76 : decode cX2_goUntilRepeated 76 = .ok (.laload, 1) := by decide +kernel
theorem dX2_goUntilRepeated_77 : decode cX2_goUntilRepeated 77 = .ok (.lcmp, 1) := by decide +kernel
theorem dX2_goUntilRepeated_78 : decode cX2_goUntilRepeated 78 = .ok (.ifCond .ne 15, 3) := by decide +kernel
theorem dX2_goUntilRepeated_81 : decode cX2_goUntilRepeated 81 = .ok (.aload_n 0, 1) := by decide +kernel
theorem dX2_goUntilRepeated_82 : decode cX2_goUntilRepeated 82 = .ok (.iload_n 1, 1) := by decide +kernel
theorem dX2_goUntilRepeated_83 : decode cX2_goUntilRepeated 83 = .ok (.putfield 37, 3) := by decide +kernel
theorem dX2_goUntilRepeated_86 : decode cX2_goUntilRepeated 86 = .ok (.aload_n 0, 1) := by decide +kernel
theorem dX2_goUntilRepeated_87 : decode cX2_goUntilRepeated 87 = .ok (.iload_n 1, 1) := by decide +kernel
theorem dX2_goUntilRepeated_88 : decode cX2_goUntilRepeated 88 = .ok (.iload_n 2, 1) := by decide +kernel
theorem dX2_goUntilRepeated_89 : decode cX2_goUntilRepeated 89 = .ok (.isub, 1) := by decide +kernel
theorem dX2_goUntilRepeated_90 : decode cX2_goUntilRepeated 90 = .ok (.putfield 41, 3) := by decide +kernel
theorem dX2_goUntilRepeated_93 : decode cX2_goUntilRepeated 93 = .ok (.iinc 2 1, 3) := by decide +kernel
theorem dX2_goUntilRepeated_96 : decode cX2_goUntilRepeated 96 = .ok (.goto (-36), 3) := by decide +kernel
theorem dX2_goUntilRepeated_99 : decode cX2_goUntilRepeated 99 = .ok (.iinc 1 1, 3) := by decide +kernel
theorem dX2_goUntilRepeated_102 : decode cX2_goUntilRepeated 102 = .ok (.goto (-74), 3) := by decide +kernel
theorem dX2_goUntilRepeated_105 : decode cX2_goUntilRepeated 105 = .ok (.return_, 1) := by decide +kernel
theorem dX2_begin_0 : decode cX2_begin 0 = .ok (.aload_n 0, 1) := by decide +kernel
theorem dX2_begin_1 : decode cX2_begin 1 = .ok (.getfield 9, 3) := by decide +kernel
theorem dX2_begin_4 : decode cX2_begin 4 = .ok (.getfield 44, 3) := by decide +kernel
theorem dX2_begin_7 : decode cX2_begin 7 = .ok (.iconst 0, 1) := by decide +kernel
theorem dX2_begin_8 : decode cX2_begin 8 = .ok (.aload_n 0, 1) := by decide +kernel
theorem dX2_begin_9 : decode cX2_begin 9 = .ok (.getfield 19, 3) := by decide +kernel
theorem dX2_begin_12 : decode cX2_begin 12 = .ok (.iconst 0, 1) := by decide +kernel
theorem dX2_begin_13 : decode cX2_begin 13 = .ok (.bipush 6, 2) := by decide +kernel
theorem dX2_begin_15 : decode cX2_begin 15 = .ok (.invokestatic 47, 3) := by decide +kernel
theorem dX2_begin_18 : decode cX2_begin 18 = .ok (.return_, 1) := by decide +kernel
theorem dX2_allWeights_0 : decode cX2_allWeights 0 = .ok (.lconst 0, 1) := by decide +kernel
theorem dX2_allWeights_1 : decode cX2_allWeights 1 = .ok (.lstore_n 1, 1) := by decide +kernel
theorem dX2_allWeights_2 : decode cX2_allWeights 2 = .ok (.iconst 0, 1) := by decide +kernel
theorem dX2_allWeights_3 : decode cX2_allWeights 3 = .ok (.istore_n 3, 1) := by decide +kernel
theorem dX2_allWeights_4 : decode cX2_allWeights 4 = .ok (.iload_n 3, 1) := by decide +kernel
theorem dX2_allWeights_5 : decode cX2_allWeights 5 = .ok (.aload_n 0, 1) := by decide +kernel
theorem dX2_allWeights_6 : decode cX2_allWeights 6 = .ok (.getfield 9, 3) := by decide +kernel
theorem dX2_allWeights_9 : decode cX2_allWeights 9 = .ok (.getfield 53, 3) := by decide +kernel
theorem dX2_allWeights_12 : decode cX2_allWeights 12 = .ok (.if_icmp .ge 23, 3) := by decide +kernel
theorem dX2_allWeights_15 : decode cX2_allWeights 15 = .ok (.ldc2_w 56, 3) := by decide +kernel
theorem dX2_allWeights_18 : decode cX2_allWeights 18 = .ok (.lload_n 1, 1) := by decide +kernel
theorem dX2_allWeights_19 : decode cX2_allWeights 19 = .ok (.lmul, 1) := by decide +kernel
theorem dX2_allWeights_20 : decode cX2_allWeights 20 = .ok (.aload_n 0, 1) := by decide +kernel
theorem dX2_allWeights_21 : decode cX2_allWeights 21 = .ok (.getfield 19, 3) := by decide +kernel
theorem dX2_allWeights_24 : decode cX2_allWeights 24 = .ok (.iload_n 3, 1) := by decide +kernel
theorem dX2_allWeights_25 : decode cX2_allWeights 25 = .ok (.iaload, 1) := by decide +kernel
theorem dX2_allWeights_26 : decode cX2_allWeights 26 = .ok (.i2l, 1) := by decide +kernel
theorem dX2_allWeights_27 : decode cX2_allWeights 27 = .ok (.ladd, 1) := by decide +kernel
theorem dX2_allWeights_28 : decode cX2_allWeights 28 = .ok (.lstore_n 1, 1) := by decide +kernel
theorem dX2_allWeights_29 : decode cX2_allWeights 29 = .ok (.iinc 3 1, 3) := by decide +kernel
theorem dX2_allWeights_32 : decode cX2_allWeights 32 = .ok (.goto (-28), 3) := by decide +kernel
theorem dX2_allWeights_35 : decode cX2_allWeights 35 = .ok (.lload_n 1, 1) := by decide +kernel
theorem dX2_allWeights_36 : decode cX2_allWeights 36 = .ok (.lreturn, 1) := by decide +kernel
theorem dX2_goRound_0 : decode cX2_goRound 0 = .ok (.iconst 0, 1) := by decide +kernel
theorem dX2_goRound_1 : decode cX2_goRound 1 = .ok (.istore_n 1, 1) := by decide +kernel
theorem dX2_goRound_2 : decode cX2_goRound 2 = .ok (.iload_n 1, 1) := by decide +kernel
theorem dX2_goRound_3 : decode cX2_goRound 3 = .ok (.aload_n 0, 1) := by decide +kernel
theorem dX2_goRound_4 : decode cX2_goRound 4 = .ok (.getfield 9, 3) := by decide +kernel
theorem dX2_goRound_7 : decode cX2_goRound 7 = .ok (.getfield 53, 3) := by decide +kernel
theorem dX2_goRound_10 : decode cX2_goRound 10 = .ok (.if_icmp .ge 32, 3) := by decide +kernel
theorem dX2_goRound_13 : decode cX2_goRound 13 = .ok (.aload_n 0, 1) := by decide +kernel
theorem dX2_goRound_14 : decode cX2_goRound 14 = .ok (.getfield 15, 3) := by decide +kernel
theorem dX2_goRound_17 : decode cX2_goRound 17 = .ok (.aload_n 0, 1) := by decide +kernel
theorem dX2_goRound_18 : decode cX2_goRound 18 = .ok (.getfield 19, 3) := by decide +kernel
theorem dX2_goRound_21 : decode cX2_goRound 21 = .ok (.iload_n 1, 1) := by decide +kernel
theorem dX2_goRound_22 : decode cX2_goRound 22 = .ok (.invokevirtual 58, 3) := by decide +kernel
theorem dX2_goRound_25 : decode cX2_goRound 25 = .ok (.aload_n 0, 1) := by decide +kernel
theorem dX2_goRound_26 : decode cX2_goRound 26 = .ok (.getfield 19, 3) := by decide +kernel
theorem dX2_goRound_29 : decode cX2_goRound 29 = .ok (.iload_n 1, 1) := by decide +kernel
theorem dX2_goRound_30 : decode cX2_goRound 30 = .ok (.aload_n 0, 1) := by decide +kernel
theorem dX2_goRound_31 : decode cX2_goRound 31 = .ok (.iload_n 1, 1) := by decide +kernel
theorem dX2_goRound_32 : decode cX2_goRound 32 = .ok (.invokevirtual 64, 3) := by decide +kernel
theorem dX2_goRound_35 : decode cX2_goRound 35 = .ok (.iastore, 1) := by decide +kernel
theorem dX2_goRound_36 : decode cX2_goRound 36 = .ok (.iinc 1 1, 3) := by decide +kernel
theorem dX2_goRound_39 : decode cX2_goRound 39 = .ok (.goto (-37), 3) := by decide +kernel
theorem dX2_goRound_42 : decode cX2_goRound 42 = .ok (.return_, 1) := by decide +kernel
theorem dX2_bestWeight_0 : decode cX2_bestWeight 0 = .ok (.aload_n 0, 1) := by decide +kernel
theorem dX2_bestWeight_1 : decode cX2_bestWeight 1 = .ok (.getfield 19, 3) := by decide +kernel
theorem dX2_bestWeight_4 : decode cX2_bestWeight 4 = .ok (.iload_n 1, 1) := by decide +kernel
theorem dX2_bestWeight_5 : decode cX2_bestWeight 5 = .ok (.iaload, 1) := by decide +kernel
theorem dX2_bestWeight_6 : decode cX2_bestWeight 6 = .ok (.istore_n 2, 1) := by decide +kernel
theorem dX2_bestWeight_7 : decode cX2_bestWeight 7 = .ok (.bipush (-100), 2) := by decide +kernel
theorem dX2_bestWeight_9 : decode cX2_bestWeight 9 = .ok (.istore_n 3, 1) := by decide +kernel
theorem dX2_bestWeight_10 : decode cX2_bestWeight 10 = .ok (.bipush 99, 2) := by decide +kernel
theorem dX2_bestWeight_12 : decode cX2_bestWeight 12 = .ok (.aload_n 0, 1) := by decide +kernel
theorem dX2_bestWeight_13 : decode cX2_bestWeight 13 = .ok (.getfield 19, 3) := by decide +kernel
theorem dX2_bestWeight_16 : decode cX2_bestWeight 16 = .ok (.iload_n 1, 1) := by decide +kernel
theorem dX2_bestWeight_17 : decode cX2_bestWeight 17 = .ok (.iaload, 1) := by decide +kernel
theorem dX2_bestWeight_18 : decode cX2_bestWeight 18 = .ok (.iconst 1, 1) := by decide +kernel
theorem dX2_bestWeight_19 : decode cX2_bestWeight 19 = .ok (.iadd, 1) := by decide +kernel
theorem dX2_bestWeight_20 : decode cX2_bestWeight 20 = .ok (.invokestatic 68, 3) := by decide +kernel
theorem dX2_bestWeight_23 : decode cX2_bestWeight 23 = .ok (.istore 4, 2) := by decide +kernel
theorem dX2_bestWeight_25 : decode cX2_bestWeight 25 = .ok (.iconst 1, 1) := by decide +kernel
theorem dX2_bestWeight_26 : decode cX2_bestWeight 26 = .ok (.aload_n 0, 1) := by decide +kernel
theorem dX2_bestWeight_27 : decode cX2_bestWeight 27 = .ok (.getfield 19, 3) := by decide +kernel
theorem dX2_bestWeight_30 : decode cX2_bestWeight 30 = .ok (.iload_n 1, 1) := by decide +kernel
theorem dX2_bestWeight_31 : decode cX2_bestWeight 31 = .ok (.iaload, 1) := by decide +kernel
theorem dX2_bestWeight_32 : decode cX2_bestWeight 32 = .ok (.iconst 1, 1) := by decide +kernel
theorem dX2_bestWeight_33 : decode cX2_bestWeight 33 = .ok (.isub, 1) := by decide +kernel
theorem dX2_bestWeight_34 : decode cX2_bestWeight 34 = .ok (.invokestatic 74, 3) := by decide +kernel
theorem dX2_bestWeight_37 : decode cX2_bestWeight 37 = .ok (.istore 5, 2) := by decide +kernel
theorem dX2_bestWeight_39 : decode cX2_bestWeight 39 = .ok (.iload 5, 2) := by decide +kernel
theorem dX2_bestWeight_41 : decode cX2_bestWeight 41 = .ok (.iload 4, 2) := by decide +kernel
theorem dX2_bestWeight_43 : decode cX2_bestWeight 43 = .ok (.if_icmp .gt 39, 3) := by decide +kernel
theorem dX2_bestWeight_46 : decode cX2_bestWeight 46 = .ok (.bipush 10, 2) := by decide +kernel
theorem dX2_bestWeight_48 : decode cX2_bestWeight 48 = .ok (.aload_n 0, 1) := by decide +kernel
theorem dX2_bestWeight_49 : decode cX2_bestWeight 49 = .ok (.getfield 15, 3) := by decide +kernel
theorem dX2_bestWeight_52 : decode cX2_bestWeight 52 = .ok (.iload_n 1, 1) := by decide +kernel
theorem dX2_bestWeight_53 : decode cX2_bestWeight 53 = .ok (.iload 5, 2) := by decide +kernel
theorem dX2_bestWeight_55 : decode cX2_bestWeight 55 = .ok (.invokevirtual 77, 3) := by decide +kernel
theorem dX2_bestWeight_58 : decode cX2_bestWeight 58 = .ok (.imul, 1) := by decide +kernel
theorem dX2_bestWeight_59 : decode cX2_bestWeight 59 = .ok (.iload 5, 2) := by decide +kernel
theorem dX2_bestWeight_61 : decode cX2_bestWeight 61 = .ok (.isub, 1) := by decide +kernel
theorem dX2_bestWeight_62 : decode cX2_bestWeight 62 = .ok (.istore 6, 2) := by decide +kernel
theorem dX2_bestWeight_64 : decode cX2_bestWeight 64 = .ok (.iload 6, 2) := by decide +kernel
theorem dX2_bestWeight_66 : decode cX2_bestWeight 66 = .ok (.iload_n 3, 1) := by decide +kernel
theorem dX2_bestWeight_67 : decode cX2_bestWeight 67 = .ok (.if_icmp .le 9, 3) := by decide +kernel
theorem dX2_bestWeight_70 : decode cX2_bestWeight 70 = .ok (.iload 5, 2) := by decide +kernel
theorem dX2_bestWeight_72 : decode cX2_bestWeight 72 = .ok (.istore_n 2, 1) := by decide +kernel
theorem dX2_bestWeight_73 : decode cX2_bestWeight 73 = .ok (.iload 6, 2) := by decide +kernel
theorem dX2_bestWeight_75 : decode cX2_bestWeight 75 = .ok (.istore_n 3, 1) := by decide +kernel
theorem dX2_bestWeight_76 : decode cX2_bestWeight 76 = .ok (.iinc 5 1, 3) := by decide +kernel
theorem dX2_bestWeight_79 : decode cX2_bestWeight 79 = .ok (.goto (-40), 3) := by decide +kernel
theorem dX2_bestWeight_82 : decode cX2_bestWeight 82 = .ok (.iload_n 2, 1) := by decide +kernel
theorem dX2_bestWeight_83 : decode cX2_bestWeight 83 = .ok (.ireturn, 1) := by decide +kernel
theorem dX3_init_0 : decode cX3_init 0 = .ok (.aload_n 0, 1) := by decide +kernel
theorem dX3_init_1 : decode cX3_init 1 = .ok (.invokespecial 3, 3) := by decide +kernel
theorem dX3_init_4 : decode cX3_init 4 = .ok (.aload_n 0, 1) := by decide +kernel
theorem dX3_init_5 : decode cX3_init 5 = .ok (.bipush 30, 2) := by decide +kernel
theorem dX3_init_7 : decode cX3_init 7 = .ok (.newarray .int, 2) := by decide +kernel
theorem dX3_init_9 : decode cX3_init 9 = .ok (.putfield 9, 3) := by decide +kernel
theorem dX3_init_12 : decode cX3_init 12 = .ok (.aload_n 0, 1) := by decide +kernel
theorem dX3_init_13 : decode cX3_init 13 = .ok (.bipush 30, 2) := by decide +kernel
theorem dX3_init_15 : decode cX3_init 15 = .ok (.newarray .int, 2) := by decide +kernel
theorem dX3_init_17 : decode cX3_init 17 = .ok (.putfield 15, 3) := by decide +kernel
theorem dX3_init_20 : decode cX3_init 20 = .ok (.aload_n 0, 1) := by decide +kernel
theorem dX3_init_21 : decode cX3_init 21 = .ok (.bipush 30, 2) := by decide +kernel
theorem dX3_init_23 : decode cX3_init 23 = .ok (.newarray .int, 2) := by decide +kernel
theorem dX3_init_25 : decode cX3_init 25 = .ok (.putfield 18, 3) := by decide +kernel
theorem dX3_init_28 : decode cX3_init 28 = .ok (.aload_n 0, 1) := by decide +kernel
theorem dX3_init_29 : decode cX3_init 29 = .ok (.bipush 10, 2) := by decide +kernel
theorem dX3_init_31 : decode cX3_init 31 = .ok (.newarray .int, 2) := by decide +kernel
theorem dX3_init_33 : decode cX3_init 33 = .ok (.putfield 21, 3) := by decide +kernel
theorem dX3_init_36 : decode cX3_init 36 = .ok (.return_, 1) := by decide +kernel
theorem dX3_firstFault_0 : decode cX3_firstFault 0 = .ok (.iconst 0, 1) := by decide +kernel
theorem dX3_firstFault_1 : decode cX3_firstFault 1 = .ok (.istore 4, 2) := by decide +kernel
theorem dX3_firstFault_3 : decode cX3_firstFault 3 = .ok (.iconst 1, 1) := by decide +kernel
theorem dX3_firstFault_4 : decode cX3_firstFault 4 = .ok (.istore 5, 2) := by decide +kernel
theorem dX3_firstFault_6 : decode cX3_firstFault 6 = .ok (.iconst 0, 1) := by decide +kernel
theorem dX3_firstFault_7 : decode cX3_firstFault 7 = .ok (.istore 6, 2) := by decide +kernel
theorem dX3_firstFault_9 : decode cX3_firstFault 9 = .ok (.iload 6, 2) := by decide +kernel
theorem dX3_firstFault_11 : decode cX3_firstFault 11 = .ok (.iload_n 3, 1) := by decide +kernel
theorem dX3_firstFault_12 : decode cX3_firstFault 12 = .ok (.if_icmp .ge 185, 3) := by decide +kernel
theorem dX3_firstFault_15 : decode cX3_firstFault 15 = .ok (.aload_n 1, 1) := by decide +kernel
theorem dX3_firstFault_16 : decode cX3_firstFault 16 = .ok (.iload_n 2, 1) := by decide +kernel
theorem dX3_firstFault_17 : decode cX3_firstFault 17 = .ok (.iload 6, 2) := by decide +kernel
theorem dX3_firstFault_19 : decode cX3_firstFault 19 = .ok (.iadd, 1) := by decide +kernel
theorem dX3_firstFault_20 : decode cX3_firstFault 20 = .ok (.iaload, 1) := by decide +kernel
theorem dX3_firstFault_21 : decode cX3_firstFault 21 = .ok (.istore 7, 2) := by decide +kernel
theorem dX3_firstFault_23 : decode cX3_firstFault 23 = .ok (.iload 7, 2) := by decide +kernel
theorem dX3_firstFault_25 : decode cX3_firstFault 25 = .ok (.bipush 48, 2) := by decide +kernel
theorem dX3_firstFault_27 : decode cX3_firstFault 27 = .ok (.isub, 1) := by decide +kernel
theorem dX3_firstFault_28 : decode cX3_firstFault 28 = .ok (.istore 8, 2) := by decide +kernel
theorem dX3_firstFault_30 : decode cX3_firstFault 30 = .ok (.iload 6, 2) := by decide +kernel
theorem dX3_firstFault_32 : decode cX3_firstFault 32 = .ok (.ifCond .ne 20, 3) := by decide +kernel
theorem dX3_firstFault_35 : decode cX3_firstFault 35 = .ok (.iload 7, 2) := by decide +kernel
theorem dX3_firstFault_37 : decode cX3_firstFault 37 = .ok (.bipush 103, 2) := by decide +kernel
theorem dX3_firstFault_39 : decode cX3_firstFault 39 = .ok (.if_icmp .ne 7, 3) := by decide +kernel
theorem dX3_firstFault_42 : decode cX3_firstFault 42 = .ok (.iconst 1, 1) := by decide +kernel
theorem dX3_firstFault_43 : decode cX3_firstFault 43 = .ok (.goto 4, 3) := by decide +kernel
theorem dX3_firstFault_46 : decode cX3_firstFault 46 = .ok (.iconst 0, 1) := by decide +kernel
theorem dX3_firstFault_47 : decode cX3_firstFault 47 = .ok (.istore 9, 2) := by decide +kernel
theorem dX3_firstFault_49 : decode cX3_firstFault 49 = .ok (.goto 134, 3) := by decide +kernel
theorem dX3_firstFault_52 : decode cX3_firstFault 52 = .ok (.iload 6, 2) := by decide +kernel
theorem dX3_firstFault_54 : decode cX3_firstFault 54 = .ok (.iconst 1, 1) := by decide +kernel
theorem dX3_firstFault_55 : decode cX3_firstFault 55 = .ok (.if_icmp .ne 29, 3) := by decide +kernel
theorem dX3_firstFault_58 : decode cX3_firstFault 58 = .ok (.iload 8, 2) := by decide +kernel
theorem dX3_firstFault_60 : decode cX3_firstFault 60 = .ok (.iconst 2, 1) := by decide +kernel
theorem dX3_firstFault_61 : decode cX3_firstFault 61 = .ok (.if_icmp .lt 13, 3) := by decide +kernel
theorem dX3_firstFault_64 : decode cX3_firstFault 64 = .ok (.iload 8, 2) := by decide +kernel
theorem dX3_firstFault_66 : decode cX3_firstFault 66 = .ok (.iconst 5, 1) := by decide +kernel
theorem dX3_firstFault_67 : decode cX3_firstFault 67 = .ok (.if_icmp .gt 7, 3) := by decide +kernel
theorem dX3_firstFault_70 : decode cX3_firstFault 70 = .ok (.iconst 1, 1) := by decide +kernel
theorem dX3_firstFault_71 : decode cX3_firstFault 71 = .ok (.goto 4, 3) := by decide +kernel
theorem dX3_firstFault_74 : decode cX3_firstFault 74 = .ok (.iconst 0, 1) := by decide +kernel
theorem dX3_firstFault_75 : decode cX3_firstFault 75 = .ok (.istore 9, 2) := by decide +kernel
theorem dX3_firstFault_77 : decode cX3_firstFault 77 = .ok (.iload 8, 2) := by decide +kernel
theorem dX3_firstFault_79 : decode cX3_firstFault 79 = .ok (.istore 4, 2) := by decide +kernel
theorem dX3_firstFault_81 : decode cX3_firstFault 81 = .ok (.goto 102, 3) := by decide +kernel
theorem dX3_firstFault_84 : decode cX3_firstFault 84 = .ok (.iload 6, 2) := by decide +kernel
theorem dX3_firstFault_86 : decode cX3_firstFault 86 = .ok (.iconst 2, 1) := by decide +kernel
theorem dX3_firstFault_87 : decode cX3_firstFault 87 = .ok (.if_icmp .ne 32, 3) := by decide +kernel
theorem dX3_firstFault_90 : decode cX3_firstFault 90 = .ok (.iload 8, 2) := by decide +kernel
theorem dX3_firstFault_92 : decode cX3_firstFault 92 = .ok (.iconst 2, 1) := by decide +kernel
theorem dX3_firstFault_93 : decode cX3_firstFault 93 = .ok (.if_icmp .lt 14, 3) := by decide +kernel
theorem dX3_firstFault_96 : decode cX3_firstFault 96 = .ok (.iload 8, 2) := by decide +kernel
theorem dX3_firstFault_98 : decode cX3_firstFault 98 = .ok (.bipush 6, 2) := by decide +kernel
theorem dX3_firstFault_100 : decode cX3_firstFault 100 = .ok (.if_icmp .gt 7, 3) := by decide +kernel
theorem dX3_firstFault_103 : decode cX3_firstFault 103 = .ok (.iconst 1, 1) := by decide +kernel
theorem dX3_firstFault_104 : decode cX3_firstFault 104 = .ok (.goto 4, 3) := by decide +kernel
theorem dX3_firstFault_107 : decode cX3_firstFault 107 = .ok (.iconst 0, 1) := by decide +kernel
theorem dX3_firstFault_108 : decode cX3_firstFault 108 = .ok (.istore 9, 2) := by decide +kernel
theorem dX3_firstFault_110 : decode cX3_firstFault 110 = .ok (.iconst 1, 1) := by decide +kernel
theorem dX3_firstFault_111 : decode cX3_firstFault 111 = .ok (.iload 8, 2) := by decide +kernel
theorem dX3_firstFault_113 : decode cX3_firstFault 113 = .ok (.iadd, 1) := by decide +kernel
theorem dX3_firstFault_114 : decode cX3_firstFault 114 = .ok (.istore 5, 2) := by decide +kernel
theorem dX3_firstFault_116 : decode cX3_firstFault 116 = .ok (.goto 67, 3) := by decide +kernel
theorem dX3_firstFault_119 : decode cX3_firstFault 119 = .ok (.iload 6, 2) := by decide +kernel
theorem dX3_firstFault_121 : decode cX3_firstFault 121 = .ok (.iconst 3, 1) := by decide +kernel
theorem dX3_firstFault_122 : decode cX3_firstFault 122 = .ok (.iload 4, 2) := by decide +kernel
theorem dX3_firstFault_124 : decode cX3_firstFault 124 = .ok (.iload 5, 2) := by decide +kernel
theorem dX3_firstFault_126 : decode cX3_firstFault 126 = .ok (.imul, 1) := by decide +kernel
theorem dX3_firstFault_127 : decode cX3_firstFault 127 = .ok (.iadd, 1) := by decide +kernel
theorem dX3_firstFault_128 : decode cX3_firstFault 128 = .ok (.if_icmp .lt 9, 3) := by decide +kernel
theorem dX3_firstFault_131 : decode cX3_firstFault 131 = .ok (.iconst 0, 1) := by decide +kernel
theorem dX3_firstFault_132 : decode cX3_firstFault 132 = .ok (.istore 9, 2) := by decide +kernel
theorem dX3_firstFault_134 : decode cX3_firstFault 134 = .ok (.goto 49, 3) := by decide +kernel
theorem dX3_firstFault_137 : decode cX3_firstFault 137 = .ok (.iload 6, 2) := by decide +kernel
theorem dX3_firstFault_139 : decode cX3_firstFault 139 = .ok (.iconst 3, 1) := by decide +kernel
theorem dX3_firstFault_140 : decode cX3_firstFault 140 = .ok (.isub, 1) := by decide +kernel
theorem dX3_firstFault_141 : decode cX3_firstFault 141 = .ok (.iload 5, 2) := by decide +kernel
theorem dX3_firstFault_143 : decode cX3_firstFault 143 = .ok (.irem, 1) := by decide +kernel
theorem dX3_firstFault_144 : decode cX3_firstFault 144 = .ok (.ifCond .ne 20, 3) := by decide +kernel
theorem dX3_firstFault_147 : decode cX3_firstFault 147 = .ok (.iload 7, 2) := by decide +kernel
theorem dX3_firstFault_149 : decode cX3_firstFault 149 = .ok (.bipush 59, 2) := by decide +kernel
theorem dX3_firstFault_151 : decode cX3_firstFault 151 = .ok (.if_icmp .ne 7, 3) := by decide +kernel
theorem dX3_firstFault_154 : decode cX3_firstFault 154 = .ok (.iconst 1, 1) := by decide +kernel
theorem dX3_firstFault_155 : decode cX3_firstFault 155 = .ok (.goto 4, 3) := by decide +kernel
theorem dX3_firstFault_158 : decode cX3_firstFault 158 = .ok (.iconst 0, 1) := by decide +kernel
theorem dX3_firstFault_159 : decode cX3_firstFault 159 = .ok (.istore 9, 2) := by decide +kernel
theorem dX3_firstFault_161 : decode cX3_firstFault 161 = .ok (.goto 22, 3) := by decide +kernel
theorem dX3_firstFault_164 : decode cX3_firstFault 164 = .ok (.iload 8, 2) := by decide +kernel
theorem dX3_firstFault_166 : decode cX3_firstFault 166 = .ok (.ifCond .lt 14, 3) := by decide +kernel
theorem dX3_firstFault_169 : decode cX3_firstFault 169 = .ok (.iload 8, 2) := by decide +kernel
theorem dX3_firstFault_171 : decode cX3_firstFault 171 = .ok (.bipush 9, 2) := by decide +kernel
theorem dX3_firstFault_173 : decode cX3_firstFault 173 = .ok (.if_icmp .gt 7, 3) := by decide +kernel
theorem dX3_firstFault_176 : decode cX3_firstFault 176 = .ok (.iconst 1, 1) := by decide +kernel
theorem dX3_firstFault_177 : decode cX3_firstFault 177 = .ok (.goto 4, 3) := by decide +kernel
theorem dX3_firstFault_180 : decode cX3_firstFault 180 = .ok (.iconst 0, 1) := by decide +kernel
theorem dX3_firstFault_181 : decode cX3_firstFault 181 = .ok (.istore 9, 2) := by decide +kernel
theorem dX3_firstFault_183 : decode cX3_firstFault 183 = .ok (.iload 9, 2) := by decide +kernel
theorem dX3_firstFault_185 : decode cX3_firstFault 185 = .ok (.ifCond .ne 6, 3) := by decide +kernel
theorem dX3_firstFault_188 : decode cX3_firstFault 188 = .ok (.iload 6, 2) := by decide +kernel
theorem dX3_firstFault_190 : decode cX3_firstFault 190 = .ok (.ireturn, 1) := by decide +kernel
theorem dX3_firstFault_191 : decode cX3_firstFault 191 = .ok (.iinc 6 1, 3) := by decide +kernel
theorem dX3_firstFault_194 : decode cX3_firstFault 194 = .ok (.goto (-185), 3) := by decide +kernel
theorem dX3_firstFault_197 : decode cX3_firstFault 197 = .ok (.iload_n 3, 1) := by decide +kernel
theorem dX3_firstFault_198 : decode cX3_firstFault 198 = .ok (.iconst 2, 1) := by decide +kernel
theorem dX3_firstFault_199 : decode cX3_firstFault 199 = .ok (.if_icmp .le 19, 3) := by decide +kernel
theorem dX3_firstFault_202 : decode cX3_firstFault 202 = .ok (.iload_n 3, 1) := by decide +kernel
theorem dX3_firstFault_203 : decode cX3_firstFault 203 = .ok (.iconst 3, 1) := by decide +kernel
theorem dX3_firstFault_204 : decode cX3_firstFault 204 = .ok (.iload 4, 2) := by decide +kernel
theorem dX3_firstFault_206 : decode cX3_firstFault 206 = .ok (.iload 5, 2) := by decide +kernel
theorem dX3_firstFault_208 : decode cX3_firstFault 208 = .ok (.imul, 1) := by decide +kernel
theorem dX3_firstFault_209 : decode cX3_firstFault 209 = .ok (.iadd, 1) := by decide +kernel
theorem dX3_firstFault_210 : decode cX3_firstFault 210 = .ok (.if_icmp .ne 8, 3) := by decide +kernel
theorem dX3_firstFault_213 : decode cX3_firstFault 213 = .ok (.bipush (-9), 2) := by decide +kernel
theorem dX3_firstFault_215 : decode cX3_firstFault 215 = .ok (.goto 4, 3) := by decide +kernel
theorem dX3_firstFault_218 : decode cX3_firstFault 218 = .ok (.iload_n 3, 1) := by decide +kernel
theorem dX3_firstFault_219 : decode cX3_firstFault 219 = .ok (.ireturn, 1) := by decide +kernel
theorem dX3_take_0 : decode cX3_take 0 = .ok (.aload_n 0, 1) := by decide +kernel
theorem dX3_take_1 : decode cX3_take 1 = .ok (.aload_n 1, 1) := by decide +kernel
theorem dX3_take_2 : decode cX3_take 2 = .ok (.iload_n 2, 1) := by decide +kernel
theorem dX3_take_3 : decode cX3_take 3 = .ok (.iconst 1, 1) := by decide +kernel
theorem dX3_take_4 : decode cX3_take 4 = .ok (.iadd, 1) := by decide +kernel
theorem dX3_take_5 : decode cX3_take 5 = .ok (.iaload, 1) := by decide +kernel
theorem dX3_take_6 : decode cX3_take 6 = .ok (.bipush 48, 2) := by decide +kernel
theorem dX3_take_8 : decode cX3_take 8 = .ok (.isub, 1) := by decide +kernel
theorem dX3_take_9 : decode cX3_take 9 = .ok (.putfield 24, 3) := by decide +kernel
theorem dX3_take_12 : decode cX3_take 12 = .ok (.aload_n 0, 1) := by decide +kernel
theorem dX3_take_13 : decode cX3_take 13 = .ok (.aload_n 1, 1) := by decide +kernel
theorem dX3_take_14 : decode cX3_take 14 = .ok (.iload_n 2, 1) := by decide +kernel
theorem dX3_take_15 : decode cX3_take 15 = .ok (.iconst 2, 1) := by decide +kernel
theorem dX3_take_16 : decode cX3_take 16 = .ok (.iadd, 1) := by decide +kernel
theorem dX3_take_17 : decode cX3_take 17 = .ok (.iaload, 1) := by decide +kernel
theorem dX3_take_18 : decode cX3_take 18 = .ok (.bipush 48, 2) := by decide +kernel
theorem dX3_take_20 : decode cX3_take 20 = .ok (.isub, 1) := by decide +kernel
theorem dX3_take_21 : decode cX3_take 21 = .ok (.putfield 28, 3) := by decide +kernel
theorem dX3_take_24 : decode cX3_take 24 = .ok (.aload_n 0, 1) := by decide +kernel
theorem dX3_take_25 : decode cX3_take 25 = .ok (.aload_n 0, 1) := by decide +kernel
theorem dX3_take_26 : decode cX3_take 26 = .ok (.getfield 24, 3) := by decide +kernel
theorem dX3_take_29 : decode cX3_take 29 = .ok (.aload_n 0, 1) := by decide +kernel
theorem dX3_take_30 : decode cX3_take 30 = .ok (.getfield 28, 3) := by decide +kernel
theorem dX3_take_33 : decode cX3_take 33 = .ok (.imul, 1) := by decide +kernel
theorem dX3_take_34 : decode cX3_take 34 = .ok (.putfield 31, 3) := by decide +kernel
theorem dX3_take_37 : decode cX3_take 37 = .ok (.aload_n 0, 1) := by decide +kernel
theorem dX3_take_38 : decode cX3_take 38 = .ok (.iconst 0, 1) := by decide +kernel
theorem dX3_take_39 : decode cX3_take 39 = .ok (.putfield 34, 3) := by decide +kernel
theorem dX3_take_42 : decode cX3_take 42 = .ok (.aload_n 0, 1) := by decide +kernel
theorem dX3_take_43 : decode cX3_take 43 = .ok (.getfield 21, 3) := by decide +kernel
theorem dX3_take_46 : decode cX3_take 46 = .ok (.iconst 0, 1) := by decide +kernel
theorem dX3_take_47 : decode cX3_take 47 = .ok (.invokestatic 37, 3) := by decide +kernel
theorem dX3_take_50 : decode cX3_take 50 = .ok (.iconst 0, 1) := by decide +kernel
theorem dX3_take_51 : decode cX3_take 51 = .ok (.istore_n 3, 1) := by decide +kernel
theorem dX3_take_52 : decode cX3_take 52 = .ok (.iload_n 3, 1) := by decide +kernel
theorem dX3_take_53 : decode cX3_take 53 = .ok (.aload_n 0, 1) := by decide +kernel
theorem dX3_take_54 : decode cX3_take 54 = .ok (.getfield 24, 3) := by decide +kernel
theorem dX3_take_57 : decode cX3_take 57 = .ok (.if_icmp .ge 117, 3) := by decide +kernel
theorem dX3_take_60 : decode cX3_take 60 = .ok (.iconst 0, 1) := by decide +kernel
theorem dX3_take_61 : decode cX3_take 61 = .ok (.istore 4, 2) := by decide +kernel
theorem dX3_take_63 : decode cX3_take 63 = .ok (.iload 4, 2) := by decide +kernel
theorem dX3_take_65 : decode cX3_take 65 = .ok (.aload_n 0, 1) := by decide +kernel
theorem dX3_take_66 : decode cX3_take 66 = .ok (.getfield 28, 3) := by decide +kernel
theorem dX3_take_69 : decode cX3_take 69 = .ok (.if_icmp .ge 99, 3) := by decide +kernel
theorem dX3_take_72 : decode cX3_take 72 = .ok (.iload_n 3, 1) := by decide +kernel
theorem dX3_take_73 : decode cX3_take 73 = .ok (.aload_n 0, 1) := by decide +kernel
theorem dX3_take_74 : decode cX3_take 74 = .ok (.getfield 28, 3) := by decide +kernel
theorem dX3_take_77 : decode cX3_take 77 = .ok (.imul, 1) := by decide +kernel
theorem dX3_take_78 : decode cX3_take 78 = .ok (.iload 4, 2) := by decide +kernel
theorem dX3_take_80 : decode cX3_take 80 = .ok (.iadd, 1) := by decide +kernel
theorem dX3_take_81 : decode cX3_take 81 = .ok (.istore 5, 2) := by decide +kernel
theorem dX3_take_83 : decode cX3_take 83 = .ok (.aload_n 0, 1) := by decide +kernel
theorem dX3_take_84 : decode cX3_take 84 = .ok (.getfield 15, 3) := by decide +kernel
theorem dX3_take_87 : decode cX3_take 87 = .ok (.iload 5, 2) := by decide +kernel
theorem dX3_take_89 : decode cX3_take 89 = .ok (.iload_n 3, 1) := by decide +kernel
theorem dX3_take_90 : decode cX3_take 90 = .ok (.iastore, 1) := by decide +kernel
theorem dX3_take_91 : decode cX3_take 91 = .ok (.aload_n 0, 1) := by decide +kernel
theorem dX3_take_92 : decode cX3_take 92 = .ok (.getfield 18, 3) := by decide +kernel
theorem dX3_take_95 : decode cX3_take 95 = .ok (.iload 5, 2) := by decide +kernel
theorem dX3_take_97 : decode cX3_take 97 = .ok (.iload 4, 2) := by decide +kernel
theorem dX3_take_99 : decode cX3_take 99 = .ok (.iastore, 1) := by decide +kernel
theorem dX3_take_100 : decode cX3_take 100 = .ok (.aload_n 0, 1) := by decide +kernel
theorem dX3_take_101 : decode cX3_take 101 = .ok (.getfield 9, 3) := by decide +kernel
theorem dX3_take_104 : decode cX3_take 104 = .ok (.iload 5, 2) := by decide +kernel
theorem dX3_take_106 : decode cX3_take 106 = .ok (.aload_n 1, 1) := by decide +kernel
theorem dX3_take_107 : decode cX3_take 107 = .ok (.iload_n 2, 1) := by decide +kernel
theorem dX3_take_108 : decode cX3_take 108 = .ok (.iconst 4, 1) := by decide +kernel
theorem dX3_take_109 : decode cX3_take 109 = .ok (.iadd, 1) := by decide +kernel
theorem dX3_take_110 : decode cX3_take 110 = .ok (.iload_n 3, 1) := by decide +kernel
theorem dX3_take_111 : decode cX3_take 111 = .ok (.aload_n 0, 1) := by decide +kernel
theorem dX3_take_112 : decode cX3_take 112 = .ok (.getfield 28, 3) := by decide +kernel
theorem dX3_take_115 : decode cX3_take 115 = .ok (.iconst 1, 1) := by decide +kernel
theorem dX3_take_116 : decode cX3_take 116 = .ok (.iadd, 1) := by decide +kernel
theorem dX3_take_117 : decode cX3_take 117 = .ok (.imul, 1) := by decide +kernel
theorem dX3_take_118 : decode cX3_take 118 = .ok (.iadd, 1) := by decide +kernel
theorem dX3_take_119 : decode cX3_take 119 = .ok (.iload 4, 2) := by decide +kernel
theorem dX3_take_121 : decode cX3_take 121 = .ok (.iadd, 1) := by decide +kernel
theorem dX3_take_122 : decode cX3_take 122 = .ok (.iaload, 1) := by decide +kernel
theorem dX3_take_123 : decode cX3_take 123 = .ok (.bipush 48, 2) := by decide +kernel
theorem dX3_take_125 : decode cX3_take 125 = .ok (.isub, 1) := by decide +kernel
theorem dX3_take_126 : decode cX3_take 126 = .ok (.iastore, 1) := by decide +kernel
theorem dX3_take_127 : decode cX3_take 127 = .ok (.iconst 0, 1) := by decide +kernel
theorem dX3_take_128 : decode cX3_take 128 = .ok (.istore 6, 2) := by decide +kernel
theorem dX3_take_130 : decode cX3_take 130 = .ok (.iload 6, 2) := by decide +kernel
theorem dX3_take_132 : decode cX3_take 132 = .ok (.aload_n 0, 1) := by decide +kernel
theorem dX3_take_133 : decode cX3_take 133 = .ok (.getfield 9, 3) := by decide +kernel
theorem dX3_take_136 : decode cX3_take 136 = .ok (.iload 5, 2) := by decide +kernel
theorem dX3_take_138 : decode cX3_take 138 = .ok (.iaload, 1) := by decide +kernel
theorem dX3_take_139 : decode cX3_take 139 = .ok (.if_icmp .ge 23, 3) := by decide +kernel
theorem dX3_take_142 : decode cX3_take 142 = .ok (.aload_n 0, 1) := by decide +kernel
theorem dX3_take_143 : decode cX3_take 143 = .ok (.getfield 21, 3) := by decide +kernel
theorem dX3_take_146 : decode cX3_take 146 = .ok (.iload 6, 2) := by decide +kernel
theorem dX3_take_148 : decode cX3_take 148 = .ok (.dup2, 1) := by decide +kernel
theorem dX3_take_149 : decode cX3_take 149 = .ok (.iaload, 1) := by decide +kernel
theorem dX3_take_150 : decode cX3_take 150 = .ok (.iconst 1, 1) := by decide +kernel
theorem dX3_take_151 : decode cX3_take 151 = .ok (.iload 5, 2) := by decide +kernel
theorem dX3_take_153 : decode cX3_take 153 = .ok (.ishl, 1) := by decide +kernel
theorem dX3_take_154 : decode cX3_take 154 = .ok (.ior, 1) := by decide +kernel
theorem dX3_take_155 : decode cX3_take 155 = .ok (.iastore, 1) := by decide +kernel
theorem dX3_take_156 : decode cX3_take 156 = .ok (.iinc 6 1, 3) := by decide +kernel
theorem dX3_take_159 : decode cX3_take 159 = .ok (.goto (-29), 3) := by decide +kernel
theorem dX3_take_162 : decode cX3_take 162 = .ok (.iinc 4 1, 3) := by decide +kernel
theorem dX3_take_165 : decode cX3_take 165 = .ok (.goto (-102), 3) := by decide +kernel
theorem dX3_take_168 : decode cX3_take 168 = .ok (.iinc 3 1, 3) := by decide +kernel
theorem dX3_take_171 : decode cX3_take 171 = .ok (.goto (-119), 3) := by decide +kernel
theorem dX3_take_174 : decode cX3_take 174 = .ok (.return_, 1) := by decide +kernel
theorem dX3_isPlanted_0 : decode cX3_isPlanted 0 = .ok (.aload_n 0, 1) := by decide +kernel
theorem dX3_isPlanted_1 : decode cX3_isPlanted 1 = .ok (.getfield 34, 3) := by decide +kernel
theorem dX3_isPlanted_4 : decode cX3_isPlanted 4 = .ok (.iload_n 1, 1) := by decide +kernel
theorem dX3_isPlanted_5 : decode cX3_isPlanted 5 = .ok (.ishr, 1) := by decide +kernel
theorem dX3_isPlanted_6 : decode cX3_isPlanted 6 = .ok (.iconst 1, 1) := by decide +kernel
theorem dX3_isPlanted_7 : decode cX3_isPlanted 7 = .ok (.iand, 1) := by decide +kernel
theorem dX3_isPlanted_8 : decode cX3_isPlanted 8 = .ok (.iconst 1, 1) := by decide +kernel
theorem dX3_isPlanted_9 : decode cX3_isPlanted 9 = .ok (.if_icmp .ne 7, 3) := by decide +kernel
theorem dX3_isPlanted_12 : decode cX3_isPlanted 12 = .ok (.iconst 1, 1) := by decide +kernel
theorem dX3_isPlanted_13 : decode cX3_isPlanted 13 = .ok (.goto 4, 3) := by decide +kernel
theorem dX3_isPlanted_16 : decode cX3_isPlanted 16 = .ok (.iconst 0, 1) := by decide +kernel
theorem dX3_isPlanted_17 : decode cX3_isPlanted 17 = .ok (.ireturn, 1) := by decide +kernel
theorem dX3_titheOf_0 : decode cX3_titheOf 0 = .ok (.bipush 10, 2) := by decide +kernel
theorem dX3_titheOf_2 : decode cX3_titheOf 2 = .ok (.aload_n 0, 1) := by decide +kernel
theorem dX3_titheOf_3 : decode cX3_titheOf 3 = .ok (.getfield 9, 3) := by decide +kernel
theorem dX3_titheOf_6 : decode cX3_titheOf 6 = .ok (.iload_n 1, 1) := by decide +kernel
theorem dX3_titheOf_7 : decode cX3_titheOf 7 = .ok (.iaload, 1) := by decide +kernel
theorem dX3_titheOf_8 : decode cX3_titheOf 8 = .ok (.isub, 1) := by decide +kernel
theorem dX3_titheOf_9 : decode cX3_titheOf 9 = .ok (.ireturn, 1) := by decide +kernel
theorem dX3_titheOfSet_0 : decode cX3_titheOfSet 0 = .ok (.iconst 0, 1) := by decide +kernel
theorem dX3_titheOfSet_1 : decode cX3_titheOfSet 1 = .ok (.istore_n 2, 1) := by decide +kernel
theorem dX3_titheOfSet_2 : decode cX3_titheOfSet 2 = .ok (.iconst 0, 1) := by decide +kernel
theorem dX3_titheOfSet_3 : decode cX3_titheOfSet 3 = .ok (.istore_n 3, 1) := by decide +kernel
theorem dX3_titheOfSet_4 : decode cX3_titheOfSet 4 = .ok (.iload_n 3, 1) := by decide +kernel
theorem dX3_titheOfSet_5 : decode cX3_titheOfSet 5 = .ok (.aload_n 0, 1) := by decide +kernel
theorem dX3_titheOfSet_6 : decode cX3_titheOfSet 6 = .ok (.getfield 31, 3) := by decide +kernel
theorem dX3_titheOfSet_9 : decode cX3_titheOfSet 9 = .ok (.if_icmp .ge 26, 3) := by decide +kernel
theorem dX3_titheOfSet_12 : decode cX3_titheOfSet 12 = .ok (.iload_n 1, 1) := by decide +kernel
theorem dX3_titheOfSet_13 : decode cX3_titheOfSet 13 = .ok (.iload_n 3, 1) := by decide +kernel
theorem dX3_titheOfSet_14 : decode cX3_titheOfSet 14 = .ok (.ishr, 1) := by decide +kernel
theorem dX3_titheOfSet_15 : decode cX3_titheOfSet 15 = .ok (.iconst 1, 1) := by decide +kernel
theorem dX3_titheOfSet_16 : decode cX3_titheOfSet 16 = .ok (.iand, 1) := by decide +kernel
theorem dX3_titheOfSet_17 : decode cX3_titheOfSet 17 = .ok (.iconst 1, 1) := by decide +kernel
theorem dX3_titheOfSet_18 : decode cX3_titheOfSet 18 = .ok (.if_icmp .ne 11, 3) := by decide +kernel
theorem dX3_titheOfSet_21 : decode cX3_titheOfSet 21 = .ok (.iload_n 2, 1) := by decide +kernel
theorem dX3_titheOfSet_22 : decode cX3_titheOfSet 22 = .ok (.aload_n 0, 1) := by decide +kernel
theorem dX3_titheOfSet_23 : decode cX3_titheOfSet 23 = .ok (.iload_n 3, 1) := by decide +kernel
theorem dX3_titheOfSet_24 : decode cX3_titheOfSet 24 = .ok (.invokevirtual 43, 3) := by decide +kernel
theorem dX3_titheOfSet_27 : decode cX3_titheOfSet 27 = .ok (.iadd, 1) := by decide +kernel
theorem dX3_titheOfSet_28 : decode cX3_titheOfSet 28 = .ok (.istore_n 2, 1) := by decide +kernel
theorem dX3_titheOfSet_29 : decode cX3_titheOfSet 29 = .ok (.iinc 3 1, 3) := by decide +kernel
theorem dX3_titheOfSet_32 : decode cX3_titheOfSet 32 = .ok (.goto (-28), 3) := by decide +kernel
theorem dX3_titheOfSet_35 : decode cX3_titheOfSet 35 = .ok (.iload_n 2, 1) := by decide +kernel
theorem dX3_titheOfSet_36 : decode cX3_titheOfSet 36 = .ok (.ireturn, 1) := by decide +kernel
theorem dX3_apart_0 : decode cX3_apart 0 = .ok (.aload_n 0, 1) := by decide +kernel
theorem dX3_apart_1 : decode cX3_apart 1 = .ok (.getfield 15, 3) := by decide +kernel
theorem dX3_apart_4 : decode cX3_apart 4 = .ok (.iload_n 2, 1) := by decide +kernel
theorem dX3_apart_5 : decode cX3_apart 5 = .ok (.iaload, 1) := by decide +kernel
theorem dX3_apart_6 : decode cX3_apart 6 = .ok (.aload_n 0, 1) := by decide +kernel
theorem dX3_apart_7 : decode cX3_apart 7 = .ok (.getfield 15, 3) := by decide +kernel
theorem dX3_apart_10 : decode cX3_apart 10 = .ok (.iload_n 1, 1) := by decide +kernel
theorem dX3_apart_11 : decode cX3_apart 11 = .ok (.iaload, 1) := by decide +kernel
theorem dX3_apart_12 : decode cX3_apart 12 = .ok (.isub, 1) := by decide +kernel
theorem dX3_apart_13 : decode cX3_apart 13 = .ok (.istore_n 3, 1) := by decide +kernel
theorem dX3_apart_14 : decode cX3_apart 14 = .ok (.aload_n 0, 1) := by decide +kernel
theorem dX3_apart_15 : decode cX3_apart 15 = .ok (.getfield 18, 3) := by decide +kernel
theorem dX3_apart_18 : decode cX3_apart 18 = .ok (.iload_n 2, 1) := by decide +kernel
theorem dX3_apart_19 : decode cX3_apart 19 = .ok (.iaload, 1) := by decide +kernel
theorem dX3_apart_20 : decode cX3_apart 20 = .ok (.aload_n 0, 1) := by decide +kernel
theorem dX3_apart_21 : decode cX3_apart 21 = .ok (.getfield 18, 3) := by decide +kernel
theorem dX3_apart_24 : decode cX3_apart 24 = .ok (.iload_n 1, 1) := by decide +kernel
theorem dX3_apart_25 : decode cX3_apart 25 = .ok (.iaload, 1) := by decide +kernel
theorem dX3_apart_26 : decode cX3_apart 26 = .ok (.isub, 1) := by decide +kernel
theorem dX3_apart_27 : decode cX3_apart 27 = .ok (.istore 4, 2) := by decide +kernel
theorem dX3_apart_29 : decode cX3_apart 29 = .ok (.iload_n 3, 1) := by decide +kernel
theorem dX3_apart_30 : decode cX3_apart 30 = .ok (.iload_n 3, 1) := by decide +kernel
theorem dX3_apart_31 : decode cX3_apart 31 = .ok (.imul, 1) := by decide +kernel
theorem dX3_apart_32 : decode cX3_apart 32 = .ok (.iload 4, 2) := by decide +kernel
theorem dX3_apart_34 : decode cX3_apart 34 = .ok (.iload 4, 2) := by decide +kernel
theorem dX3_apart_36 : decode cX3_apart 36 = .ok (.imul, 1) := by decide +kernel
theorem dX3_apart_37 : decode cX3_apart 37 = .ok (.iadd, 1) := by decide +kernel
theorem dX3_apart_38 : decode cX3_apart 38 = .ok (.ireturn, 1) := by decide +kernel
theorem dX3_between_0 : decode cX3_between 0 = .ok (.aload_n 0, 1) := by decide +kernel
theorem dX3_between_1 : decode cX3_between 1 = .ok (.getfield 15, 3) := by decide +kernel
theorem dX3_between_4 : decode cX3_between 4 = .ok (.iload_n 2, 1) := by decide +kernel
theorem dX3_between_5 : decode cX3_between 5 = .ok (.iaload, 1) := by decide +kernel
theorem dX3_between_6 : decode cX3_between 6 = .ok (.aload_n 0, 1) := by decide +kernel
theorem dX3_between_7 : decode cX3_between 7 = .ok (.getfield 15, 3) := by decide +kernel
theorem dX3_between_10 : decode cX3_between 10 = .ok (.iload_n 1, 1) := by decide +kernel
theorem dX3_between_11 : decode cX3_between 11 = .ok (.iaload, 1) := by decide +kernel
theorem dX3_between_12 : decode cX3_between 12 = .ok (.isub, 1) := by decide +kernel
theorem dX3_between_13 : decode cX3_between 13 = .ok (.istore_n 3, 1) := by decide +kernel
theorem dX3_between_14 : decode cX3_between 14 = .ok (.aload_n 0, 1) := by decide +kernel
theorem dX3_between_15 : decode cX3_between 15 = .ok (.getfield 18, 3) := by decide +kernel
theorem dX3_between_18 : decode cX3_between 18 = .ok (.iload_n 2, 1) := by decide +kernel
theorem dX3_between_19 : decode cX3_between 19 = .ok (.iaload, 1) := by decide +kernel
theorem dX3_between_20 : decode cX3_between 20 = .ok (.aload_n 0, 1) := by decide +kernel
theorem dX3_between_21 : decode cX3_between 21 = .ok (.getfield 18, 3) := by decide +kernel
theorem dX3_between_24 : decode cX3_between 24 = .ok (.iload_n 1, 1) := by decide +kernel
theorem dX3_between_25 : decode cX3_between 25 = .ok (.iaload, 1) := by decide +kernel
theorem dX3_between_26 : decode cX3_between 26 = .ok (.isub, 1) := by decide +kernel
theorem dX3_between_27 : decode cX3_between 27 = .ok (.istore 4, 2) := by decide +kernel
theorem dX3_between_29 : decode cX3_between 29 = .ok (.iload_n 3, 1) := by decide +kernel
theorem dX3_between_30 : decode cX3_between 30 = .ok (.invokestatic 47, 3) := by decide +kernel
theorem dX3_between_33 : decode cX3_between 33 = .ok (.iload 4, 2) := by decide +kernel
theorem dX3_between_35 : decode cX3_between 35 = .ok (.invokestatic 47, 3) := by decide +kernel
theorem dX3_between_38 : decode cX3_between 38 = .ok (.invokestatic 52, 3) := by decide +kernel
theorem dX3_between_41 : decode cX3_between 41 = .ok (.istore 5, 2) := by decide +kernel
theorem dX3_between_43 : decode cX3_between 43 = .ok (.iconst 0, 1) := by decide +kernel
theorem dX3_between_44 : decode cX3_between 44 = .ok (.istore 6, 2) := by decide +kernel
theorem dX3_between_46 : decode cX3_between 46 = .ok (.iconst 1, 1) := by decide +kernel
theorem dX3_between_47 : decode cX3_between 47 = .ok (.istore 7, 2) := by decide +kernel
theorem dX3_between_49 : decode cX3_between 49 = .ok (.iload 7, 2) := by decide +kernel
theorem dX3_between_51 : decode cX3_between 51 = .ok (.iload 5, 2) := by decide +kernel
theorem dX3_between_53 : decode cX3_between 53 = .ok (.if_icmp .ge 61, 3) := by decide +kernel
theorem dX3_between_56 : decode cX3_between 56 = .ok (.aload_n 0, 1) := by decide +kernel
theorem dX3_between_57 : decode cX3_between 57 = .ok (.getfield 15, 3) := by decide +kernel
theorem dX3_between_60 : decode cX3_between 60 = .ok (.iload_n 1, 1) := by decide +kernel
theorem dX3_between_61 : decode cX3_between 61 = .ok (.iaload, 1) := by decide +kernel
theorem dX3_between_62 : decode cX3_between 62 = .ok (.iload 7, 2) := by decide +kernel
theorem dX3_between_64 : decode cX3_between 64 = .ok (.iload_n 3, 1) := by decide +kernel
theorem dX3_between_65 : decode cX3_between 65 = .ok (.iload 5, 2) := by decide +kernel
theorem dX3_between_67 : decode cX3_between 67 = .ok (.invokestatic 56, 3) := by decide +kernel
theorem dX3_between_70 : decode cX3_between 70 = .ok (.iadd, 1) := by decide +kernel
theorem dX3_between_71 : decode cX3_between 71 = .ok (.istore 8, 2) := by decide +kernel
theorem dX3_between_73 : decode cX3_between 73 = .ok (.aload_n 0, 1) := by decide +kernel
theorem dX3_between_74 : decode cX3_between 74 = .ok (.getfield 18, 3) := by decide +kernel
theorem dX3_between_77 : decode cX3_between 77 = .ok (.iload_n 1, 1) := by decide +kernel
theorem dX3_between_78 : decode cX3_between 78 = .ok (.iaload, 1) := by decide +kernel
theorem dX3_between_79 : decode cX3_between 79 = .ok (.iload 7, 2) := by decide +kernel
theorem dX3_between_81 : decode cX3_between 81 = .ok (.iload 4, 2) := by decide +kernel
theorem dX3_between_83 : decode cX3_between 83 = .ok (.iload 5, 2) := by decide +kernel
theorem dX3_between_85 : decode cX3_between 85 = .ok (.invokestatic 56, 3) := by decide +kernel
theorem dX3_between_88 : decode cX3_between 88 = .ok (.iadd, 1) := by decide +kernel
theorem dX3_between_89 : decode cX3_between 89 = .ok (.istore 9, 2) := by decide +kernel
theorem dX3_between_91 : decode cX3_between 91 = .ok (.iload 6, 2) := by decide +kernel
theorem dX3_between_93 : decode cX3_between 93 = .ok (.iconst 1, 1) := by decide +kernel
theorem dX3_between_94 : decode cX3_between 94 = .ok (.iload 8, 2) := by decide +kernel
theorem dX3_between_96 : decode cX3_between 96 = .ok (.aload_n 0, 1) := by decide +kernel
theorem dX3_between_97 : decode cX3_between 97 = .ok (.getfield 28, 3) := by decide +kernel
theorem dX3_between_100 : decode cX3_between 100 = .ok (.imul, 1) := by decide +kernel
theorem dX3_between_101 : decode cX3_between 101 = .ok (.iload 9, 2) := by decide +kernel
theorem dX3_between_103 : decode cX3_between 103 = .ok (.iadd, 1) := by decide +kernel
theorem dX3_between_104 : decode cX3_between 104 = .ok (.ishl, 1) := by decide +kernel
theorem dX3_between_105 : decode cX3_between 105 = .ok (.ior, 1) := by decide +kernel
theorem dX3_between_106 : decode cX3_between 106 = .ok (.istore 6, 2) := by decide +kernel
theorem dX3_between_108 : decode cX3_between 108 = .ok (.iinc 7 1, 3) := by decide +kernel
theorem dX3_between_111 : decode cX3_between 111 = .ok (.goto (-62), 3) := by decide +kernel
theorem dX3_between_114 : decode cX3_between 114 = .ok (.iload 6, 2) := by decide +kernel
theorem dX3_between_116 : decode cX3_between 116 = .ok (.ireturn, 1) := by decide +kernel
theorem dX3_stepsOn_0 : decode cX3_stepsOn 0 = .ok (.iconst 2, 1) := by decide +kernel
theorem dX3_stepsOn_1 : decode cX3_stepsOn 1 = .ok (.iload_n 0, 1) := by decide +kernel
theorem dX3_stepsOn_2 : decode cX3_stepsOn 2 = .ok (.imul, 1) := by decide +kernel
theorem dX3_stepsOn_3 : decode cX3_stepsOn 3 = .ok (.iload_n 1, 1) := by decide +kernel
theorem dX3_stepsOn_4 : decode cX3_stepsOn 4 = .ok (.imul, 1) := by decide +kernel
theorem dX3_stepsOn_5 : decode cX3_stepsOn 5 = .ok (.istore_n 3, 1) := by decide +kernel
theorem dX3_stepsOn_6 : decode cX3_stepsOn 6 = .ok (.iload_n 3, 1) := by decide +kernel
theorem dX3_stepsOn_7 : decode cX3_stepsOn 7 = .ok (.ifCond .ge 9, 3) := by decide +kernel
theorem dX3_stepsOn_10 : decode cX3_stepsOn 10 = .ok (.iload_n 3, 1) := by decide +kernel
theorem dX3_stepsOn_11 : decode cX3_stepsOn 11 = .ok (.iload_n 2, 1) := by decide +kernel
theorem dX3_stepsOn_12 : decode cX3_stepsOn 12 = .ok (.isub, 1) := by decide +kernel
theorem dX3_stepsOn_13 : decode cX3_stepsOn 13 = .ok (.goto 6, 3) := by decide +kernel
theorem dX3_stepsOn_16 : decode cX3_stepsOn 16 = .ok (.iload_n 3, 1) := by decide +kernel
theorem dX3_stepsOn_17 : decode cX3_stepsOn 17 = .ok (.iload_n 2, 1) := by decide +kernel
theorem dX3_stepsOn_18 : decode cX3_stepsOn 18 = .ok (.iadd, 1) := by decide +kernel
theorem dX3_stepsOn_19 : decode cX3_stepsOn 19 = .ok (.iconst 2, 1) := by decide +kernel
theorem dX3_stepsOn_20 : decode cX3_stepsOn 20 = .ok (.iload_n 2, 1) := by decide +kernel
theorem dX3_stepsOn_21 : decode cX3_stepsOn 21 = .ok (.imul, 1) := by decide +kernel
theorem dX3_stepsOn_22 : decode cX3_stepsOn 22 = .ok (.idiv, 1) := by decide +kernel
theorem dX3_stepsOn_23 : decode cX3_stepsOn 23 = .ok (.ireturn, 1) := by decide +kernel
theorem dX3_hillsOn_0 : decode cX3_hillsOn 0 = .ok (.iload_n 1, 1) := by decide +kernel
theorem dX3_hillsOn_1 : decode cX3_hillsOn 1 = .ok (.aload_n 0, 1) := by decide +kernel
theorem dX3_hillsOn_2 : decode cX3_hillsOn 2 = .ok (.getfield 21, 3) := by decide +kernel
theorem dX3_hillsOn_5 : decode cX3_hillsOn 5 = .ok (.aload_n 0, 1) := by decide +kernel
theorem dX3_hillsOn_6 : decode cX3_hillsOn 6 = .ok (.getfield 9, 3) := by decide +kernel
theorem dX3_hillsOn_9 : decode cX3_hillsOn 9 = .ok (.iload_n 2, 1) := by decide +kernel
theorem dX3_hillsOn_10 : decode cX3_hillsOn 10 = .ok (.iaload, 1) := by decide +kernel
theorem dX3_hillsOn_11 : decode cX3_hillsOn 11 = .ok (.aload_n 0, 1) := by decide +kernel
theorem dX3_hillsOn_12 : decode cX3_hillsOn 12 = .ok (.getfield 9, 3) := by decide +kernel
theorem dX3_hillsOn_15 : decode cX3_hillsOn 15 = .ok (.iload_n 3, 1) := by decide +kernel
theorem dX3_hillsOn_16 : decode cX3_hillsOn 16 = .ok (.iaload, 1) := by decide +kernel
theorem dX3_hillsOn_17 : decode cX3_hillsOn 17 = .ok (.invokestatic 52, 3) := by decide +kernel
theorem dX3_hillsOn_20 : decode cX3_hillsOn 20 = .ok (.iaload, 1) := by decide +kernel
theorem dX3_hillsOn_21 : decode cX3_hillsOn 21 = .ok (.iand, 1) := by decide +kernel
theorem dX3_hillsOn_22 : decode cX3_hillsOn 22 = .ok (.invokestatic 60, 3) := by decide +kernel
theorem dX3_hillsOn_25 : decode cX3_hillsOn 25 = .ok (.ireturn, 1) := by decide +kernel
theorem dX3_downwind_0 : decode cX3_downwind 0 = .ok (.iload_n 3, 1) := by decide +kernel
theorem dX3_downwind_1 : decode cX3_downwind 1 = .ok (.bipush 10, 2) := by decide +kernel
theorem dX3_downwind_3 : decode cX3_downwind 3 = .ok (.idiv, 1) := by decide +kernel
theorem dX3_downwind_4 : decode cX3_downwind 4 = .ok (.tableswitch 70 0 2 #[28, 42, 56], 28) := by decide +kernel
theorem dX3_downwind_32 : decode cX3_downwind 32 = .ok (.aload_n 0, 1) := by decide +kernel
theorem dX3_downwind_33 : decode cX3_downwind 33 = .ok (.getfield 15, 3) := by decide +kernel
theorem dX3_downwind_36 : decode cX3_downwind 36 = .ok (.iload_n 1, 1) := by decide +kernel
theorem dX3_downwind_37 : decode cX3_downwind 37 = .ok (.iaload, 1) := by decide +kernel
theorem dX3_downwind_38 : decode cX3_downwind 38 = .ok (.aload_n 0, 1) := by decide +kernel
theorem dX3_downwind_39 : decode cX3_downwind 39 = .ok (.getfield 15, 3) := by decide +kernel
theorem dX3_downwind_42 : decode cX3_downwind 42 = .ok (.iload_n 2, 1) := by decide +kernel
theorem dX3_downwind_43 : decode cX3_downwind 43 = .ok (.iaload, 1) := by decide +kernel
theorem dX3_downwind_44 : decode cX3_downwind 44 = .ok (.isub, 1) := by decide +kernel
theorem dX3_downwind_45 : decode cX3_downwind 45 = .ok (.ireturn, 1) := by decide +kernel
theorem dX3_downwind_46 : decode cX3_downwind 46 = .ok (.aload_n 0, 1) := by decide +kernel
theorem dX3_downwind_47 : decode cX3_downwind 47 = .ok (.getfield 18, 3) := by decide +kernel
theorem dX3_downwind_50 : decode cX3_downwind 50 = .ok (.iload_n 2, 1) := by decide +kernel
theorem dX3_downwind_51 : decode cX3_downwind 51 = .ok (.iaload, 1) := by decide +kernel
theorem dX3_downwind_52 : decode cX3_downwind 52 = .ok (.aload_n 0, 1) := by decide +kernel
theorem dX3_downwind_53 : decode cX3_downwind 53 = .ok (.getfield 18, 3) := by decide +kernel
theorem dX3_downwind_56 : decode cX3_downwind 56 = .ok (.iload_n 1, 1) := by decide +kernel
theorem dX3_downwind_57 : decode cX3_downwind 57 = .ok (.iaload, 1) := by decide +kernel
theorem dX3_downwind_58 : decode cX3_downwind 58 = .ok (.isub, 1) := by decide +kernel
theorem dX3_downwind_59 : decode cX3_downwind 59 = .ok (.ireturn, 1) := by decide +kernel
theorem dX3_downwind_60 : decode cX3_downwind 60 = .ok (.aload_n 0, 1) := by decide +kernel
theorem dX3_downwind_61 : decode cX3_downwind 61 = .ok (.getfield 15, 3) := by decide +kernel
theorem dX3_downwind_64 : decode cX3_downwind 64 = .ok (.iload_n 2, 1) := by decide +kernel
theorem dX3_downwind_65 : decode cX3_downwind 65 = .ok (.iaload, 1) := by decide +kernel
theorem dX3_downwind_66 : decode cX3_downwind 66 = .ok (.aload_n 0, 1) := by decide +kernel
theorem dX3_downwind_67 : decode cX3_downwind 67 = .ok (.getfield 15, 3) := by decide +kernel
theorem dX3_downwind_70 : decode cX3_downwind 70 = .ok (.iload_n 1, 1) := by decide +kernel
theorem dX3_downwind_71 : decode cX3_downwind 71 = .ok (.iaload, 1) := by decide +kernel
theorem dX3_downwind_72 : decode cX3_downwind 72 = .ok (.isub, 1) := by decide +kernel
theorem dX3_downwind_73 : decode cX3_downwind 73 = .ok (.ireturn, 1) := by decide +kernel
theorem dX3_downwind_74 : decode cX3_downwind 74 = .ok (.aload_n 0, 1) := by decide +kernel
theorem dX3_downwind_75 : decode cX3_downwind 75 = .ok (.getfield 18, 3) := by decide +kernel
theorem dX3_downwind_78 : decode cX3_downwind 78 = .ok (.iload_n 1, 1) := by decide +kernel
theorem dX3_downwind_79 : decode cX3_downwind 79 = .ok (.iaload, 1) := by decide +kernel
theorem dX3_downwind_80 : decode cX3_downwind 80 = .ok (.aload_n 0, 1) := by decide +kernel
theorem dX3_downwind_81 : decode cX3_downwind 81 = .ok (.getfield 18, 3) := by decide +kernel
theorem dX3_downwind_84 : decode cX3_downwind 84 = .ok (.iload_n 2, 1) := by decide +kernel
theorem dX3_downwind_85 : decode cX3_downwind 85 = .ok (.iaload, 1) := by decide +kernel
theorem dX3_downwind_86 : decode cX3_downwind 86 = .ok (.isub, 1) := by decide +kernel
theorem dX3_downwind_87 : decode cX3_downwind 87 = .ok (.ireturn, 1) := by decide +kernel
theorem dX4_init_0 : decode cX4_init 0 = .ok (.aload_n 0, 1) := by decide +kernel
theorem dX4_init_1 : decode cX4_init 1 = .ok (.invokespecial 3, 3) := by decide +kernel
theorem dX4_init_4 : decode cX4_init 4 = .ok (.aload_n 0, 1) := by decide +kernel
theorem dX4_init_5 : decode cX4_init 5 = .ok (.aload_n 1, 1) := by decide +kernel
theorem dX4_init_6 : decode cX4_init 6 = .ok (.putfield 9, 3) := by decide +kernel
theorem dX4_init_9 : decode cX4_init 9 = .ok (.aload_n 0, 1) := by decide +kernel
theorem dX4_init_10 : decode cX4_init 10 = .ok (.aload_n 2, 1) := by decide +kernel
theorem dX4_init_11 : decode cX4_init 11 = .ok (.putfield 15, 3) := by decide +kernel
theorem dX4_init_14 : decode cX4_init 14 = .ok (.aload_n 0, 1) := by decide +kernel
theorem dX4_init_15 : decode cX4_init 15 = .ok (.bipush 10, 2) := by decide +kernel
theorem dX4_init_17 : decode cX4_init 17 = .ok (.newarray .int, 2) := by decide +kernel
theorem dX4_init_19 : decode cX4_init 19 = .ok (.putfield 19, 3) := by decide +kernel
theorem dX4_init_22 : decode cX4_init 22 = .ok (.aload_n 0, 1) := by decide +kernel
theorem dX4_init_23 : decode cX4_init 23 = .ok (.bipush 10, 2) := by decide +kernel
theorem dX4_init_25 : decode cX4_init 25 = .ok (.newarray .int, 2) := by decide +kernel
theorem dX4_init_27 : decode cX4_init 27 = .ok (.putfield 23, 3) := by decide +kernel
theorem dX4_init_30 : decode cX4_init 30 = .ok (.aload_n 0, 1) := by decide +kernel
theorem dX4_init_31 : decode cX4_init 31 = .ok (.bipush 10, 2) := by decide +kernel
theorem dX4_init_33 : decode cX4_init 33 = .ok (.newarray .int, 2) := by decide +kernel
theorem dX4_init_35 : decode cX4_init 35 = .ok (.putfield 26, 3) := by decide +kernel
theorem dX4_init_38 : decode cX4_init 38 = .ok (.aload_n 0, 1) := by decide +kernel
theorem dX4_init_39 : decode cX4_init 39 = .ok (.bipush 10, 2) := by decide +kernel
theorem dX4_init_41 : decode cX4_init 41 = .ok (.newarray .int, 2) := by decide +kernel
theorem dX4_init_43 : decode cX4_init 43 = .ok (.putfield 29, 3) := by decide +kernel
theorem dX4_init_46 : decode cX4_init 46 = .ok (.return_, 1) := by decide +kernel
theorem dX4_add_0 : decode cX4_add 0 = .ok (.aload_n 0, 1) := by decide +kernel
theorem dX4_add_1 : decode cX4_add 1 = .ok (.getfield 32, 3) := by decide +kernel
theorem dX4_add_4 : decode cX4_add 4 = .ok (.istore 5, 2) := by decide +kernel
theorem dX4_add_6 : decode cX4_add 6 = .ok (.aload_n 0, 1) := by decide +kernel
theorem dX4_add_7 : decode cX4_add 7 = .ok (.getfield 19, 3) := by decide +kernel
theorem dX4_add_10 : decode cX4_add 10 = .ok (.iload 5, 2) := by decide +kernel
theorem dX4_add_12 : decode cX4_add 12 = .ok (.iload_n 1, 1) := by decide +kernel
theorem dX4_add_13 : decode cX4_add 13 = .ok (.iastore, 1) := by decide +kernel
theorem dX4_add_14 : decode cX4_add 14 = .ok (.aload_n 0, 1) := by decide +kernel
theorem dX4_add_15 : decode cX4_add 15 = .ok (.getfield 23, 3) := by decide +kernel
theorem dX4_add_18 : decode cX4_add 18 = .ok (.iload 5, 2) := by decide +kernel
theorem dX4_add_20 : decode cX4_add 20 = .ok (.iload_n 2, 1) := by decide +kernel
theorem dX4_add_21 : decode cX4_add 21 = .ok (.iastore, 1) := by decide +kernel
theorem dX4_add_22 : decode cX4_add 22 = .ok (.aload_n 0, 1) := by decide +kernel
theorem dX4_add_23 : decode cX4_add 23 = .ok (.getfield 26, 3) := by decide +kernel
theorem dX4_add_26 : decode cX4_add 26 = .ok (.iload 5, 2) := by decide +kernel
theorem dX4_add_28 : decode cX4_add 28 = .ok (.iload_n 3, 1) := by decide +kernel
theorem dX4_add_29 : decode cX4_add 29 = .ok (.iastore, 1) := by decide +kernel
theorem dX4_add_30 : decode cX4_add 30 = .ok (.aload_n 0, 1) := by decide +kernel
theorem dX4_add_31 : decode cX4_add 31 = .ok (.getfield 29, 3) := by decide +kernel
theorem dX4_add_34 : decode cX4_add 34 = .ok (.iload 5, 2) := by decide +kernel
theorem dX4_add_36 : decode cX4_add 36 = .ok (.iload 4, 2) := by decide +kernel
theorem dX4_add_38 : decode cX4_add 38 = .ok (.iastore, 1) := by decide +kernel
theorem dX4_add_39 : decode cX4_add 39 = .ok (.aload_n 0, 1) := by decide +kernel
theorem dX4_add_40 : decode cX4_add 40 = .ok (.iload 5, 2) := by decide +kernel
theorem dX4_add_42 : decode cX4_add 42 = .ok (.iconst 1, 1) := by decide +kernel
theorem dX4_add_43 : decode cX4_add 43 = .ok (.iadd, 1) := by decide +kernel
theorem dX4_add_44 : decode cX4_add 44 = .ok (.putfield 32, 3) := by decide +kernel
theorem dX4_add_47 : decode cX4_add 47 = .ok (.iload 5, 2) := by decide +kernel
theorem dX4_add_49 : decode cX4_add 49 = .ok (.ireturn, 1) := by decide +kernel
theorem dX4_isSo_0 : decode cX4_isSo 0 = .ok (.aload_n 0, 1) := by decide +kernel
theorem dX4_isSo_1 : decode cX4_isSo 1 = .ok (.iload_n 1, 1) := by decide +kernel
theorem dX4_isSo_2 : decode cX4_isSo 2 = .ok (.aload_n 0, 1) := by decide +kernel
theorem dX4_isSo_3 : decode cX4_isSo 3 = .ok (.getfield 9, 3) := by decide +kernel
theorem dX4_isSo_6 : decode cX4_isSo 6 = .ok (.getfield 36, 3) := by decide +kernel
theorem dX4_isSo_9 : decode cX4_isSo 9 = .ok (.aload_n 0, 1) := by decide +kernel
theorem dX4_isSo_10 : decode cX4_isSo 10 = .ok (.getfield 26, 3) := by decide +kernel
theorem dX4_isSo_13 : decode cX4_isSo 13 = .ok (.iload_n 1, 1) := by decide +kernel
theorem dX4_isSo_14 : decode cX4_isSo 14 = .ok (.iaload, 1) := by decide +kernel
theorem dX4_isSo_15 : decode cX4_isSo 15 = .ok (.iaload, 1) := by decide +kernel
theorem dX4_isSo_16 : decode cX4_isSo 16 = .ok (.aload_n 0, 1) := by decide +kernel
theorem dX4_isSo_17 : decode cX4_isSo 17 = .ok (.getfield 9, 3) := by decide +kernel
theorem dX4_isSo_20 : decode cX4_isSo 20 = .ok (.getfield 36, 3) := by decide +kernel
theorem dX4_isSo_23 : decode cX4_isSo 23 = .ok (.aload_n 0, 1) := by decide +kernel
theorem dX4_isSo_24 : decode cX4_isSo 24 = .ok (.getfield 29, 3) := by decide +kernel
theorem dX4_isSo_27 : decode cX4_isSo 27 = .ok (.iload_n 1, 1) := by decide +kernel
theorem dX4_isSo_28 : decode cX4_isSo 28 = .ok (.iaload, 1) := by decide +kernel
theorem dX4_isSo_29 : decode cX4_isSo 29 = .ok (.iaload, 1) := by decide +kernel
theorem dX4_isSo_30 : decode cX4_isSo 30 = .ok (.invokevirtual 41, 3) := by decide +kernel
theorem dX4_isSo_33 : decode cX4_isSo 33 = .ok (.ireturn, 1) := by decide +kernel
theorem dX4_wouldBeSo_0 : decode cX4_wouldBeSo 0 = .ok (.iload_n 2, 1) := by decide +kernel
theorem dX4_wouldBeSo_1 : decode cX4_wouldBeSo 1 = .ok (.i2l, 1) := by decide +kernel
theorem dX4_wouldBeSo_2 : decode cX4_wouldBeSo 2 = .ok (.aload_n 0, 1) := by decide +kernel
theorem dX4_wouldBeSo_3 : decode cX4_wouldBeSo 3 = .ok (.getfield 15, 3) := by decide +kernel
theorem dX4_wouldBeSo_6 : decode cX4_wouldBeSo 6 = .ok (.aload_n 0, 1) := by decide +kernel
theorem dX4_wouldBeSo_7 : decode cX4_wouldBeSo 7 = .ok (.getfield 26, 3) := by decide +kernel
theorem dX4_wouldBeSo_10 : decode cX4_wouldBeSo 10 = .ok (.iload_n 1, 1) := by decide +kernel
theorem dX4_wouldBeSo_11 : decode cX4_wouldBeSo 11 = .ok (.iaload, 1) := by decide +kernel
theorem dX4_wouldBeSo_12 : decode cX4_wouldBeSo 12 = .ok (.aload_n 0, 1) := by decide +kernel
theorem dX4_wouldBeSo_13 : decode cX4_wouldBeSo 13 = .ok (.getfield 19, 3) := by decide +kernel
theorem dX4_wouldBeSo_16 : decode cX4_wouldBeSo 16 = .ok (.iload_n 1, 1) := by decide +kernel
theorem dX4_wouldBeSo_17 : decode cX4_wouldBeSo 17 = .ok (.iaload, 1) := by decide +kernel
theorem dX4_wouldBeSo_18 : decode cX4_wouldBeSo 18 = .ok (.aload_n 0, 1) := by decide +kernel
theorem dX4_wouldBeSo_19 : decode cX4_wouldBeSo 19 = .ok (.getfield 23, 3) := by decide +kernel
theorem dX4_wouldBeSo_22 : decode cX4_wouldBeSo 22 = .ok (.iload_n 1, 1) := by decide +kernel
theorem dX4_wouldBeSo_23 : decode cX4_wouldBeSo 23 = .ok (.iaload, 1) := by decide +kernel
theorem dX4_wouldBeSo_24 : decode cX4_wouldBeSo 24 = .ok (.invokevirtual 45, 3) := by decide +kernel
theorem dX4_wouldBeSo_27 : decode cX4_wouldBeSo 27 = .ok (.lmul, 1) := by decide +kernel
theorem dX4_wouldBeSo_28 : decode cX4_wouldBeSo 28 = .ok (.iload_n 3, 1) := by decide +kernel
theorem dX4_wouldBeSo_29 : decode cX4_wouldBeSo 29 = .ok (.i2l, 1) := by decide +kernel
theorem dX4_wouldBeSo_30 : decode cX4_wouldBeSo 30 = .ok (.aload_n 0, 1) := by decide +kernel
theorem dX4_wouldBeSo_31 : decode cX4_wouldBeSo 31 = .ok (.getfield 15, 3) := by decide +kernel
theorem dX4_wouldBeSo_34 : decode cX4_wouldBeSo 34 = .ok (.aload_n 0, 1) := by decide +kernel
theorem dX4_wouldBeSo_35 : decode cX4_wouldBeSo 35 = .ok (.getfield 29, 3) := by decide +kernel
theorem dX4_wouldBeSo_38 : decode cX4_wouldBeSo 38 = .ok (.iload_n 1, 1) := by decide +kernel
theorem dX4_wouldBeSo_39 : decode cX4_wouldBeSo 39 = .ok (.iaload, 1) := by decide +kernel
theorem dX4_wouldBeSo_40 : decode cX4_wouldBeSo 40 = .ok (.aload_n 0, 1) := by decide +kernel
theorem dX4_wouldBeSo_41 : decode cX4_wouldBeSo 41 = .ok (.getfield 19, 3) := by decide +kernel
theorem dX4_wouldBeSo_44 : decode cX4_wouldBeSo 44 = .ok (.iload_n 1, 1) := by decide +kernel
theorem dX4_wouldBeSo_45 : decode cX4_wouldBeSo 45 = .ok (.iaload, 1) := by decide +kernel
theorem dX4_wouldBeSo_46 : decode cX4_wouldBeSo 46 = .ok (.aload_n 0, 1) := by decide +kernel
theorem dX4_wouldBeSo_47 : decode cX4_wouldBeSo 47 = .ok (.getfield 23, 3) := by decide +kernel
theorem dX4_wouldBeSo_50 : decode cX4_wouldBeSo 50 = .ok (.iload_n 1, 1) := by decide +kernel
theorem dX4_wouldBeSo_51 : decode cX4_wouldBeSo 51 = .ok (.iaload, 1) := by decide +kernel
theorem dX4_wouldBeSo_52 : decode cX4_wouldBeSo 52 = .ok (.invokevirtual 45, 3) := by decide +kernel
theorem dX4_wouldBeSo_55 : decode cX4_wouldBeSo 55 = .ok (.lmul, 1) := by decide +kernel
theorem dX4_wouldBeSo_56 : decode cX4_wouldBeSo 56 = .ok (.lcmp, 1) := by decide +kernel
theorem dX4_wouldBeSo_57 : decode cX4_wouldBeSo 57 = .ok (.ifCond .le 7, 3) := by decide +kernel
theorem dX4_wouldBeSo_60 : decode cX4_wouldBeSo 60 = .ok (.iconst 1, 1) := by decide +kernel
theorem dX4_wouldBeSo_61 : decode cX4_wouldBeSo 61 = .ok (.goto 4, 3) := by decide +kernel
theorem dX4_wouldBeSo_64 : decode cX4_wouldBeSo 64 = .ok (.iconst 0, 1) := by decide +kernel
theorem dX4_wouldBeSo_65 : decode cX4_wouldBeSo 65 = .ok (.ireturn, 1) := by decide +kernel
theorem dX4_allowWeight_0 : decode cX4_allowWeight 0 = .ok (.iconst 0, 1) := by decide +kernel
theorem dX4_allowWeight_1 : decode cX4_allowWeight 1 = .ok (.istore_n 3, 1) := by decide +kernel
theorem dX4_allowWeight_2 : decode cX4_allowWeight 2 = .ok (.iload_n 3, 1) := by decide +kernel
theorem dX4_allowWeight_3 : decode cX4_allowWeight 3 = .ok (.aload_n 0, 1) := by decide +kernel
theorem dX4_allowWeight_4 : decode cX4_allowWeight 4 = .ok (.getfield 32, 3) := by decide +kernel
theorem dX4_allowWeight_7 : decode cX4_allowWeight 7 = .ok (.if_icmp .ge 79, 3) := by decide +kernel
theorem dX4_allowWeight_10 : decode cX4_allowWeight 10 = .ok (.aload_n 0, 1) := by decide +kernel
theorem dX4_allowWeight_11 : decode cX4_allowWeight 11 = .ok (.getfield 26, 3) := by decide +kernel
theorem dX4_allowWeight_14 : decode cX4_allowWeight 14 = .ok (.iload_n 3, 1) := by decide +kernel
theorem dX4_allowWeight_15 : decode cX4_allowWeight 15 = .ok (.iaload, 1) := by decide +kernel
theorem dX4_allowWeight_16 : decode cX4_allowWeight 16 = .ok (.iload_n 1, 1) := by decide +kernel
theorem dX4_allowWeight_17 : decode cX4_allowWeight 17 = .ok (.if_icmp .ne 28, 3) := by decide +kernel
theorem dX4_allowWeight_20 : decode cX4_allowWeight 20 = .ok (.aload_n 0, 1) := by decide +kernel
theorem dX4_allowWeight_21 : decode cX4_allowWeight 21 = .ok (.iload_n 3, 1) := by decide +kernel
theorem dX4_allowWeight_22 : decode cX4_allowWeight 22 = .ok (.iload_n 2, 1) := by decide +kernel
theorem dX4_allowWeight_23 : decode cX4_allowWeight 23 = .ok (.aload_n 0, 1) := by decide +kernel
theorem dX4_allowWeight_24 : decode cX4_allowWeight 24 = .ok (.getfield 9, 3) := by decide +kernel
theorem dX4_allowWeight_27 : decode cX4_allowWeight 27 = .ok (.getfield 36, 3) := by decide +kernel
theorem dX4_allowWeight_30 : decode cX4_allowWeight 30 = .ok (.aload_n 0, 1) := by decide +kernel
theorem dX4_allowWeight_31 : decode cX4_allowWeight 31 = .ok (.getfield 29, 3) := by decide +kernel
theorem dX4_allowWeight_34 : decode cX4_allowWeight 34 = .ok (.iload_n 3, 1) := by decide +kernel
theorem dX4_allowWeight_35 : decode cX4_allowWeight 35 = .ok (.iaload, 1) := by decide +kernel
theorem dX4_allowWeight_36 : decode cX4_allowWeight 36 = .ok (.iaload, 1) := by decide +kernel
theorem dX4_allowWeight_37 : decode cX4_allowWeight 37 = .ok (.invokevirtual 41, 3) := by decide +kernel
theorem dX4_allowWeight_40 : decode cX4_allowWeight 40 = .ok (.ifCond .ne 5, 3) := by decide +kernel
theorem dX4_allowWeight_43 : decode cX4_allowWeight 43 = .ok (.iconst 0, 1) := by decide +kernel
theorem dX4_allowWeight_44 : decode cX4_allowWeight 44 = .ok (.ireturn, 1) := by decide +kernel
theorem dX4_allowWeight_45 : decode cX4_allowWeight 45 = .ok (.aload_n 0, 1) := by decide +kernel
theorem dX4_allowWeight_46 : decode cX4_allowWeight 46 = .ok (.getfield 29, 3) := by decide +kernel
theorem dX4_allowWeight_49 : decode cX4_allowWeight 49 = .ok (.iload_n 3, 1) := by decide +kernel
theorem dX4_allowWeight_50 : decode cX4_allowWeight 50 = .ok (.iaload, 1) := by decide +kernel
theorem dX4_allowWeight_51 : decode cX4_allowWeight 51 = .ok (.iload_n 1, 1) := by decide +kernel
theorem dX4_allowWeight_52 : decode cX4_allowWeight 52 = .ok (.if_icmp .ne 28, 3) := by decide +kernel
theorem dX4_allowWeight_55 : decode cX4_allowWeight 55 = .ok (.aload_n 0, 1) := by decide +kernel
theorem dX4_allowWeight_56 : decode cX4_allowWeight 56 = .ok (.iload_n 3, 1) := by decide +kernel
theorem dX4_allowWeight_57 : decode cX4_allowWeight 57 = .ok (.aload_n 0, 1) := by decide +kernel
theorem dX4_allowWeight_58 : decode cX4_allowWeight 58 = .ok (.getfield 9, 3) := by decide +kernel
theorem dX4_allowWeight_61 : decode cX4_allowWeight 61 = .ok (.getfield 36, 3) := by decide +kernel
theorem dX4_allowWeight_64 : decode cX4_allowWeight 64 = .ok (.aload_n 0, 1) := by decide +kernel
theorem dX4_allowWeight_65 : decode cX4_allowWeight 65 = .ok (.getfield 26, 3) := by decide +kernel
theorem dX4_allowWeight_68 : decode cX4_allowWeight 68 = .ok (.iload_n 3, 1) := by decide +kernel
theorem dX4_allowWeight_69 : decode cX4_allowWeight 69 = .ok (.iaload, 1) := by decide +kernel
theorem dX4_allowWeight_70 : decode cX4_allowWeight 70 = .ok (.iaload, 1) := by decide +kernel
theorem dX4_allowWeight_71 : decode cX4_allowWeight 71 = .ok (.iload_n 2, 1) := by decide +kernel
theorem dX4_allowWeight_72 : decode cX4_allowWeight 72 = .ok (.invokevirtual 41, 3) := by decide +kernel
theorem dX4_allowWeight_75 : decode cX4_allowWeight 75 = .ok (.ifCond .ne 5, 3) := by decide +kernel
theorem dX4_allowWeight_78 : decode cX4_allowWeight 78 = .ok (.iconst 0, 1) := by decide +kernel
theorem dX4_allowWeight_79 : decode cX4_allowWeight 79 = .ok (.ireturn, 1) := by decide +kernel
theorem dX4_allowWeight_80 : decode cX4_allowWeight 80 = .ok (.iinc 3 1, 3) := by decide +kernel
theorem dX4_allowWeight_83 : decode cX4_allowWeight 83 = .ok (.goto (-81), 3) := by decide +kernel
theorem dX4_allowWeight_86 : decode cX4_allowWeight 86 = .ok (.iconst 1, 1) := by decide +kernel
theorem dX4_allowWeight_87 : decode cX4_allowWeight 87 = .ok (.ireturn, 1) := by decide +kernel
theorem dX5_init_0 : decode cX5_init 0 = .ok (.aload_n 0, 1) := by decide +kernel
theorem dX5_init_1 : decode cX5_init 1 = .ok (.invokespecial 3, 3) := by decide +kernel
theorem dX5_init_4 : decode cX5_init 4 = .ok (.aload_n 0, 1) := by decide +kernel
theorem dX5_init_5 : decode cX5_init 5 = .ok (.aload_n 1, 1) := by decide +kernel
theorem dX5_init_6 : decode cX5_init 6 = .ok (.putfield 9, 3) := by decide +kernel
theorem dX5_init_9 : decode cX5_init 9 = .ok (.aload_n 0, 1) := by decide +kernel
theorem dX5_init_10 : decode cX5_init 10 = .ok (.aload_n 2, 1) := by decide +kernel
theorem dX5_init_11 : decode cX5_init 11 = .ok (.putfield 15, 3) := by decide +kernel
theorem dX5_init_14 : decode cX5_init 14 = .ok (.aload_n 0, 1) := by decide +kernel
theorem dX5_init_15 : decode cX5_init 15 = .ok (.bipush 6, 2) := by decide +kernel
theorem dX5_init_17 : decode cX5_init 17 = .ok (.newarray .int, 2) := by decide +kernel
theorem dX5_init_19 : decode cX5_init 19 = .ok (.putfield 19, 3) := by decide +kernel
theorem dX5_init_22 : decode cX5_init 22 = .ok (.aload_n 0, 1) := by decide +kernel
theorem dX5_init_23 : decode cX5_init 23 = .ok (.bipush 6, 2) := by decide +kernel
theorem dX5_init_25 : decode cX5_init 25 = .ok (.newarray .int, 2) := by decide +kernel
theorem dX5_init_27 : decode cX5_init 27 = .ok (.putfield 23, 3) := by decide +kernel
theorem dX5_init_30 : decode cX5_init 30 = .ok (.return_, 1) := by decide +kernel
theorem dX5_fewest_0 : decode cX5_fewest 0 = .ok (.iconst 0, 1) := by decide +kernel
theorem dX5_fewest_1 : decode cX5_fewest 1 = .ok (.istore_n 1, 1) := by decide +kernel
theorem dX5_fewest_2 : decode cX5_fewest 2 = .ok (.iload_n 1, 1) := by decide +kernel
theorem dX5_fewest_3 : decode cX5_fewest 3 = .ok (.aload_n 0, 1) := by decide +kernel
theorem dX5_fewest_4 : decode cX5_fewest 4 = .ok (.getfield 9, 3) := by decide +kernel
theorem dX5_fewest_7 : decode cX5_fewest 7 = .ok (.getfield 26, 3) := by decide +kernel
theorem dX5_fewest_10 : decode cX5_fewest 10 = .ok (.if_icmp .ge 23, 3) := by decide +kernel
theorem dX5_fewest_13 : decode cX5_fewest 13 = .ok (.aload_n 0, 1) := by decide +kernel
theorem dX5_fewest_14 : decode cX5_fewest 14 = .ok (.getfield 19, 3) := by decide +kernel
theorem dX5_fewest_17 : decode cX5_fewest 17 = .ok (.iload_n 1, 1) := by decide +kernel
theorem dX5_fewest_18 : decode cX5_fewest 18 = .ok (.aload_n 0, 1) := by decide +kernel
theorem dX5_fewest_19 : decode cX5_fewest 19 = .ok (.getfield 15, 3) := by decide +kernel
theorem dX5_fewest_22 : decode cX5_fewest 22 = .ok (.iload_n 1, 1) := by decide +kernel
theorem dX5_fewest_23 : decode cX5_fewest 23 = .ok (.invokevirtual 32, 3) := by decide +kernel
theorem dX5_fewest_26 : decode cX5_fewest 26 = .ok (.iastore, 1) := by decide +kernel
theorem dX5_fewest_27 : decode cX5_fewest 27 = .ok (.iinc 1 1, 3) := by decide +kernel
theorem dX5_fewest_30 : decode cX5_fewest 30 = .ok (.goto (-28), 3) := by decide +kernel
theorem dX5_fewest_33 : decode cX5_fewest 33 = .ok (.iconst 0, 1) := by decide +kernel
theorem dX5_fewest_34 : decode cX5_fewest 34 = .ok (.istore_n 1, 1) := by decide +kernel
theorem dX5_fewest_35 : decode cX5_fewest 35 = .ok (.iload_n 1, 1) := by decide +kernel
theorem dX5_fewest_36 : decode cX5_fewest 36 = .ok (.aload_n 0, 1) := by decide +kernel
theorem dX5_fewest_37 : decode cX5_fewest 37 = .ok (.getfield 9, 3) := by decide +kernel
theorem dX5_fewest_40 : decode cX5_fewest 40 = .ok (.getfield 26, 3) := by decide +kernel
theorem dX5_fewest_43 : decode cX5_fewest 43 = .ok (.if_icmp .ge 19, 3) := by decide +kernel
theorem dX5_fewest_46 : decode cX5_fewest 46 = .ok (.aload_n 0, 1) := by decide +kernel
theorem dX5_fewest_47 : decode cX5_fewest 47 = .ok (.iload_n 1, 1) := by decide +kernel
theorem dX5_fewest_48 : decode cX5_fewest 48 = .ok (.invokevirtual 38, 3) := by decide +kernel
theorem dX5_fewest_51 : decode cX5_fewest 51 = .ok (.ifCond .eq 5, 3) := by decide +kernel
theorem dX5_fewest_54 : decode cX5_fewest 54 = .ok (.iload_n 1, 1) := by decide +kernel
theorem dX5_fewest_55 : decode cX5_fewest 55 = .ok (.ireturn, 1) := by decide +kernel
theorem dX5_fewest_56 : decode cX5_fewest 56 = .ok (.iinc 1 1, 3) := by decide +kernel
theorem dX5_fewest_59 : decode cX5_fewest 59 = .ok (.goto (-24), 3) := by decide +kernel
theorem dX5_fewest_62 : decode cX5_fewest 62 = .ok (.aload_n 0, 1) := by decide +kernel
theorem dX5_fewest_63 : decode cX5_fewest 63 = .ok (.aload_n 0, 1) := by decide +kernel
theorem dX5_fewest_64 : decode cX5_fewest 64 = .ok (.getfield 9, 3) := by decide +kernel
theorem dX5_fewest_67 : decode cX5_fewest 67 = .ok (.getfield 26, 3) := by decide +kernel
theorem dX5_fewest_70 : decode cX5_fewest 70 = .ok (.invokevirtual 38, 3) := by decide +kernel
theorem dX5_fewest_73 : decode cX5_fewest 73 = .ok (.pop, 1) := by decide +kernel
theorem dX5_fewest_74 : decode cX5_fewest 74 = .ok (.aload_n 0, 1) := by decide +kernel
theorem dX5_fewest_75 : decode cX5_fewest 75 = .ok (.getfield 9, 3) := by decide +kernel
theorem dX5_fewest_78 : decode cX5_fewest 78 = .ok (.getfield 26, 3) := by decide +kernel
theorem dX5_fewest_81 : decode cX5_fewest 81 = .ok (.ireturn, 1) := by decide +kernel
theorem dX5_findFirstRow_0 : decode cX5_findFirstRow 0 = .ok (.iconst 0, 1) := by decide +kernel
theorem dX5_findFirstRow_1 : decode cX5_findFirstRow 1 = .ok (.istore_n 2, 1) := by decide +kernel
theorem dX5_findFirstRow_2 : decode cX5_findFirstRow 2 = .ok (.aload_n 0, 1) := by decide +kernel
theorem dX5_findFirstRow_3 : decode cX5_findFirstRow 3 = .ok (.getfield 23, 3) := by decide +kernel
theorem dX5_findFirstRow_6 : decode cX5_findFirstRow 6 = .ok (.iconst 0, 1) := by decide +kernel
theorem dX5_findFirstRow_7 : decode cX5_findFirstRow 7 = .ok (.iconst (-1), 1) := by decide +kernel
theorem dX5_findFirstRow_8 : decode cX5_findFirstRow 8 = .ok (.iastore, 1) := by decide +kernel
theorem dX5_findFirstRow_9 : decode cX5_findFirstRow 9 = .ok (.iconst 0, 1) := by decide +kernel
theorem dX5_findFirstRow_10 : decode cX5_findFirstRow 10 = .ok (.istore_n 3, 1) := by decide +kernel
theorem dX5_findFirstRow_11 : decode cX5_findFirstRow 11 = .ok (.iload_n 3, 1) := by decide +kernel
theorem dX5_findFirstRow_12 : decode cX5_findFirstRow 12 = .ok (.ldc 42, 2) := by decide +kernel
theorem dX5_findFirstRow_14 : decode cX5_findFirstRow 14 = .ok (.if_icmp .ge 81, 3) := by decide +kernel
theorem dX5_findFirstRow_17 : decode cX5_findFirstRow 17 = .ok (.iload_n 2, 1) := by decide +kernel
theorem dX5_findFirstRow_18 : decode cX5_findFirstRow 18 = .ok (.ifCond .lt 77, 3) := by decide +kernel
theorem dX5_findFirstRow_21 : decode cX5_findFirstRow 21 = .ok (.iload_n 2, 1) := by decide +kernel
theorem dX5_findFirstRow_22 : decode cX5_findFirstRow 22 = .ok (.aload_n 0, 1) := by decide +kernel
theorem dX5_findFirstRow_23 : decode cX5_findFirstRow 23 = .ok (.getfield 9, 3) := by decide +kernel
theorem dX5_findFirstRow_26 : decode cX5_findFirstRow 26 = .ok (.getfield 26, 3) := by decide +kernel
theorem dX5_findFirstRow_29 : decode cX5_findFirstRow 29 = .ok (.if_icmp .ge 66, 3) := by decide +kernel
theorem dX5_findFirstRow_32 : decode cX5_findFirstRow 32 = .ok (.aload_n 0, 1) := by decide +kernel
theorem dX5_findFirstRow_33 : decode cX5_findFirstRow 33 = .ok (.getfield 23, 3) := by decide +kernel
theorem dX5_findFirstRow_36 : decode cX5_findFirstRow 36 = .ok (.iload_n 2, 1) := by decide +kernel
theorem dX5_findFirstRow_37 : decode cX5_findFirstRow 37 = .ok (.aload_n 0, 1) := by decide +kernel
theorem dX5_findFirstRow_38 : decode cX5_findFirstRow 38 = .ok (.iload_n 2, 1) := by decide +kernel
theorem dX5_findFirstRow_39 : decode cX5_findFirstRow 39 = .ok (.aload_n 0, 1) := by decide +kernel
theorem dX5_findFirstRow_40 : decode cX5_findFirstRow 40 = .ok (.getfield 23, 3) := by decide +kernel
theorem dX5_findFirstRow_43 : decode cX5_findFirstRow 43 = .ok (.iload_n 2, 1) := by decide +kernel
theorem dX5_findFirstRow_44 : decode cX5_findFirstRow 44 = .ok (.iaload, 1) := by decide +kernel
theorem dX5_findFirstRow_45 : decode cX5_findFirstRow 45 = .ok (.iconst 1, 1) := by decide +kernel
theorem dX5_findFirstRow_46 : decode cX5_findFirstRow 46 = .ok (.iadd, 1) := by decide +kernel
theorem dX5_findFirstRow_47 : decode cX5_findFirstRow 47 = .ok (.iload_n 1, 1) := by decide +kernel
theorem dX5_findFirstRow_48 : decode cX5_findFirstRow 48 = .ok (.invokevirtual 43, 3) := by decide +kernel
theorem dX5_findFirstRow_51 : decode cX5_findFirstRow 51 = .ok (.iastore, 1) := by decide +kernel
theorem dX5_findFirstRow_52 : decode cX5_findFirstRow 52 = .ok (.aload_n 0, 1) := by decide +kernel
theorem dX5_findFirstRow_53 : decode cX5_findFirstRow 53 = .ok (.getfield 23, 3) := by decide +kernel
theorem dX5_findFirstRow_56 : decode cX5_findFirstRow 56 = .ok (.iload_n 2, 1) := by decide +kernel
theorem dX5_findFirstRow_57 : decode cX5_findFirstRow 57 = .ok (.iaload, 1) := by decide +kernel
theorem dX5_findFirstRow_58 : decode cX5_findFirstRow 58 = .ok (.iload_n 1, 1) := by decide +kernel
theorem dX5_findFirstRow_59 : decode cX5_findFirstRow 59 = .ok (.if_icmp .lt 9, 3) := by decide +kernel
theorem dX5_findFirstRow_62 : decode cX5_findFirstRow 62 = .ok (.iinc 2 (-1), 3) := by decide +kernel
theorem dX5_findFirstRow_65 : decode cX5_findFirstRow 65 = .ok (.goto 24, 3) := by decide +kernel
theorem dX5_findFirstRow_68 : decode cX5_findFirstRow 68 = .ok (.iinc 2 1, 3) := by decide +kernel
theorem dX5_findFirstRow_71 : decode cX5_findFirstRow 71 = .ok (.iload_n 2, 1) := by decide +kernel
theorem dX5_findFirstRow_72 : decode cX5_findFirstRow 72 = .ok (.aload_n 0, 1) := by decide +kernel
theorem dX5_findFirstRow_73 : decode cX5_findFirstRow 73 = .ok (.getfield 9, 3) := by decide +kernel
theorem dX5_findFirstRow_76 : decode cX5_findFirstRow 76 = .ok (.getfield 26, 3) := by decide +kernel
theorem dX5_findFirstRow_79 : decode cX5_findFirstRow 79 = .ok (.if_icmp .ge 10, 3) := by decide +kernel
theorem dX5_findFirstRow_82 : decode cX5_findFirstRow 82 = .ok (.aload_n 0, 1) := by decide +kernel
theorem dX5_findFirstRow_83 : decode cX5_findFirstRow 83 = .ok (.getfield 23, 3) := by decide +kernel
theorem dX5_findFirstRow_86 : decode cX5_findFirstRow 86 = .ok (.iload_n 2, 1) := by decide +kernel
theorem dX5_findFirstRow_87 : decode cX5_findFirstRow 87 = .ok (.iconst (-1), 1) := by decide +kernel
theorem dX5_findFirstRow_88 : decode cX5_findFirstRow 88 = .ok (.iastore, 1) := by decide +kernel
theorem dX5_findFirstRow_89 : decode cX5_findFirstRow 89 = .ok (.iinc 3 1, 3) := by decide +kernel
theorem dX5_findFirstRow_92 : decode cX5_findFirstRow 92 = .ok (.goto (-81), 3) := by decide +kernel
theorem dX5_findFirstRow_95 : decode cX5_findFirstRow 95 = .ok (.iload_n 2, 1) := by decide +kernel
theorem dX5_findFirstRow_96 : decode cX5_findFirstRow 96 = .ok (.aload_n 0, 1) := by decide +kernel
theorem dX5_findFirstRow_97 : decode cX5_findFirstRow 97 = .ok (.getfield 9, 3) := by decide +kernel
theorem dX5_findFirstRow_100 : decode cX5_findFirstRow 100 = .ok (.getfield 26, 3) := by decide +kernel
theorem dX5_findFirstRow_103 : decode cX5_findFirstRow 103 = .ok (.if_icmp .ne 7, 3) := by decide +kernel
theorem dX5_findFirstRow_106 : decode cX5_findFirstRow 106 = .ok (.iconst 1, 1) := by decide +kernel
theorem dX5_findFirstRow_107 : decode cX5_findFirstRow 107 = .ok (.goto 4, 3) := by decide +kernel
theorem dX5_findFirstRow_110 : decode cX5_findFirstRow 110 = .ok (.iconst 0, 1) := by decide +kernel
theorem dX5_findFirstRow_111 : decode cX5_findFirstRow 111 = .ok (.ireturn, 1) := by decide +kernel
theorem dX5_nextWithoutClash_0 : decode cX5_nextWithoutClash 0 = .ok (.iload_n 2, 1) := by decide +kernel
theorem dX5_nextWithoutClash_1 : decode cX5_nextWithoutClash 1 = .ok (.istore 4, 2) := by decide +kernel
theorem dX5_nextWithoutClash_3 : decode cX5_nextWithoutClash 3 = .ok (.iload 4, 2) := by decide +kernel
theorem dX5_nextWithoutClash_5 : decode cX5_nextWithoutClash 5 = .ok (.iload_n 3, 1) := by decide +kernel
theorem dX5_nextWithoutClash_6 : decode cX5_nextWithoutClash 6 = .ok (.if_icmp .ge 19, 3) := by decide +kernel
theorem dX5_nextWithoutClash_9 : decode cX5_nextWithoutClash 9 = .ok (.aload_n 0, 1) := by decide +kernel
theorem dX5_nextWithoutClash_10 : decode cX5_nextWithoutClash 10 = .ok (.iload_n 1, 1) := by decide +kernel
theorem dX5_nextWithoutClash_11 : decode cX5_nextWithoutClash 11 = .ok (.iload 4, 2) := by decide +kernel
theorem dX5_nextWithoutClash_13 : decode cX5_nextWithoutClash 13 = .ok (.invokevirtual 47, 3) := by decide +kernel
theorem dX5_nextWithoutClash_16 : decode cX5_nextWithoutClash 16 = .ok (.ifCond .eq 9, 3) := by decide +kernel
theorem dX5_nextWithoutClash_19 : decode cX5_nextWithoutClash 19 = .ok (.iinc 4 1, 3) := by decide +kernel
theorem dX5_nextWithoutClash_22 : decode cX5_nextWithoutClash 22 = .ok (.goto (-19), 3) := by decide +kernel
theorem dX5_nextWithoutClash_25 : decode cX5_nextWithoutClash 25 = .ok (.iload 4, 2) := by decide +kernel
theorem dX5_nextWithoutClash_27 : decode cX5_nextWithoutClash 27 = .ok (.ireturn, 1) := by decide +kernel
theorem dX5_clashesIn_0 : decode cX5_clashesIn 0 = .ok (.iconst 0, 1) := by decide +kernel
theorem dX5_clashesIn_1 : decode cX5_clashesIn 1 = .ok (.istore_n 3, 1) := by decide +kernel
theorem dX5_clashesIn_2 : decode cX5_clashesIn 2 = .ok (.iload_n 3, 1) := by decide +kernel
theorem dX5_clashesIn_3 : decode cX5_clashesIn 3 = .ok (.iload_n 1, 1) := by decide +kernel
theorem dX5_clashesIn_4 : decode cX5_clashesIn 4 = .ok (.if_icmp .ge 37, 3) := by decide +kernel
theorem dX5_clashesIn_7 : decode cX5_clashesIn 7 = .ok (.aload_n 0, 1) := by decide +kernel
theorem dX5_clashesIn_8 : decode cX5_clashesIn 8 = .ok (.getfield 23, 3) := by decide +kernel
theorem dX5_clashesIn_11 : decode cX5_clashesIn 11 = .ok (.iload_n 3, 1) := by decide +kernel
theorem dX5_clashesIn_12 : decode cX5_clashesIn 12 = .ok (.iaload, 1) := by decide +kernel
theorem dX5_clashesIn_13 : decode cX5_clashesIn 13 = .ok (.iload_n 2, 1) := by decide +kernel
theorem dX5_clashesIn_14 : decode cX5_clashesIn 14 = .ok (.if_icmp .ne 21, 3) := by decide +kernel
theorem dX5_clashesIn_17 : decode cX5_clashesIn 17 = .ok (.aload_n 0, 1) := by decide +kernel
theorem dX5_clashesIn_18 : decode cX5_clashesIn 18 = .ok (.getfield 19, 3) := by decide +kernel
theorem dX5_clashesIn_21 : decode cX5_clashesIn 21 = .ok (.iload_n 3, 1) := by decide +kernel
theorem dX5_clashesIn_22 : decode cX5_clashesIn 22 = .ok (.iaload, 1) := by decide +kernel
theorem dX5_clashesIn_23 : decode cX5_clashesIn 23 = .ok (.aload_n 0, 1) := by decide +kernel
theorem dX5_clashesIn_24 : decode cX5_clashesIn 24 = .ok (.getfield 19, 3) := by decide +kernel
theorem dX5_clashesIn_27 : decode cX5_clashesIn 27 = .ok (.iload_n 1, 1) := by decide +kernel
theorem dX5_clashesIn_28 : decode cX5_clashesIn 28 = .ok (.iaload, 1) := by decide +kernel
theorem dX5_clashesIn_29 : decode cX5_clashesIn 29 = .ok (.iand, 1) := by decide +kernel
theorem dX5_clashesIn_30 : decode cX5_clashesIn 30 = .ok (.ifCond .eq 5, 3) := by decide +kernel
theorem dX5_clashesIn_33 : decode cX5_clashesIn 33 = .ok (.iconst 1, 1) := by decide +kernel
theorem dX5_clashesIn_34 : decode cX5_clashesIn 34 = .ok (.ireturn, 1) := by decide +kernel
theorem dX5_clashesIn_35 : decode cX5_clashesIn 35 = .ok (.iinc 3 1, 3) := by decide +kernel
theorem dX5_clashesIn_38 : decode cX5_clashesIn 38 = .ok (.goto (-36), 3) := by decide +kernel
theorem dX5_clashesIn_41 : decode cX5_clashesIn 41 = .ok (.iconst 0, 1) := by decide +kernel
theorem dX5_clashesIn_42 : decode cX5_clashesIn 42 = .ok (.ireturn, 1) := by decide +kernel
theorem dX6_init_0 : decode cX6_init 0 = .ok (.aload_n 0, 1) := by decide +kernel
theorem dX6_init_1 : decode cX6_init 1 = .ok (.invokespecial 3, 3) := by decide +kernel
theorem dX6_init_4 : decode cX6_init 4 = .ok (.aload_n 0, 1) := by decide +kernel
theorem dX6_init_5 : decode cX6_init 5 = .ok (.bipush 60, 2) := by decide +kernel
theorem dX6_init_7 : decode cX6_init 7 = .ok (.newarray .int, 2) := by decide +kernel
theorem dX6_init_9 : decode cX6_init 9 = .ok (.putfield 9, 3) := by decide +kernel
theorem dX6_init_12 : decode cX6_init 12 = .ok (.return_, 1) := by decide +kernel
theorem dX6_renew_0 : decode cX6_renew 0 = .ok (.aload_n 0, 1) := by decide +kernel
theorem dX6_renew_1 : decode cX6_renew 1 = .ok (.iconst 1, 1) := by decide +kernel
theorem dX6_renew_2 : decode cX6_renew 2 = .ok (.putfield 15, 3) := by decide +kernel
theorem dX6_renew_5 : decode cX6_renew 5 = .ok (.aload_n 0, 1) := by decide +kernel
theorem dX6_renew_6 : decode cX6_renew 6 = .ok (.iload_n 1, 1) := by decide +kernel
theorem dX6_renew_7 : decode cX6_renew 7 = .ok (.putfield 19, 3) := by decide +kernel
theorem dX6_renew_10 : decode cX6_renew 10 = .ok (.aload_n 0, 1) := by decide +kernel
theorem dX6_renew_11 : decode cX6_renew 11 = .ok (.iload_n 2, 1) := by decide +kernel
theorem dX6_renew_12 : decode cX6_renew 12 = .ok (.putfield 23, 3) := by decide +kernel
theorem dX6_renew_15 : decode cX6_renew 15 = .ok (.aload_n 0, 1) := by decide +kernel
theorem dX6_renew_16 : decode cX6_renew 16 = .ok (.getfield 9, 3) := by decide +kernel
theorem dX6_renew_19 : decode cX6_renew 19 = .ok (.iconst 0, 1) := by decide +kernel
theorem dX6_renew_20 : decode cX6_renew 20 = .ok (.invokestatic 26, 3) := by decide +kernel
theorem dX6_renew_23 : decode cX6_renew 23 = .ok (.return_, 1) := by decide +kernel
theorem dX6_cut_0 : decode cX6_cut 0 = .ok (.aload_n 0, 1) := by decide +kernel
theorem dX6_cut_1 : decode cX6_cut 1 = .ok (.getfield 19, 3) := by decide +kernel
theorem dX6_cut_4 : decode cX6_cut 4 = .ok (.ifCond .ne 6, 3) := by decide +kernel
theorem dX6_cut_7 : decode cX6_cut 7 = .ok (.iload_n 1, 1) := by decide +kernel
theorem dX6_cut_8 : decode cX6_cut 8 = .ok (.i2b, 1) := by decide +kernel
theorem dX6_cut_9 : decode cX6_cut 9 = .ok (.ireturn, 1) := by decide +kernel
theorem dX6_cut_10 : decode cX6_cut 10 = .ok (.aload_n 0, 1) := by decide +kernel
theorem dX6_cut_11 : decode cX6_cut 11 = .ok (.getfield 19, 3) := by decide +kernel
theorem dX6_cut_14 : decode cX6_cut 14 = .ok (.iconst 1, 1) := by decide +kernel
theorem dX6_cut_15 : decode cX6_cut 15 = .ok (.if_icmp .ne 8, 3) := by decide +kernel
theorem dX6_cut_18 : decode cX6_cut 18 = .ok (.iload_n 1, 1) := by decide +kernel
theorem dX6_cut_19 : decode cX6_cut 19 = .ok (.i2s, 1) := by decide +kernel
theorem dX6_cut_20 : decode cX6_cut 20 = .ok (.goto 4, 3) := by decide +kernel
theorem dX6_cut_23 : decode cX6_cut 23 = .ok (.iload_n 1, 1) := by decide +kernel
theorem dX6_cut_24 : decode cX6_cut 24 = .ok (.ireturn, 1) := by decide +kernel
theorem dX6_hasNumber_0 : decode cX6_hasNumber 0 = .ok (.iload_n 1, 1) := by decide +kernel
theorem dX6_hasNumber_1 : decode cX6_hasNumber 1 = .ok (.ifCond .lt 15, 3) := by decide +kernel
theorem dX6_hasNumber_4 : decode cX6_hasNumber 4 = .ok (.iload_n 1, 1) := by decide +kernel
theorem dX6_hasNumber_5 : decode cX6_hasNumber 5 = .ok (.aload_n 0, 1) := by decide +kernel
theorem dX6_hasNumber_6 : decode cX6_hasNumber 6 = .ok (.getfield 23, 3) := by decide +kernel
theorem dX6_hasNumber_9 : decode cX6_hasNumber 9 = .ok (.if_icmp .ge 7, 3) := by decide +kernel
theorem dX6_hasNumber_12 : decode cX6_hasNumber 12 = .ok (.iconst 1, 1) := by decide +kernel
theorem dX6_hasNumber_13 : decode cX6_hasNumber 13 = .ok (.goto 4, 3) := by decide +kernel
theorem dX6_hasNumber_16 : decode cX6_hasNumber 16 = .ok (.iconst 0, 1) := by decide +kernel
theorem dX6_hasNumber_17 : decode cX6_hasNumber 17 = .ok (.ireturn, 1) := by decide +kernel
theorem dX6_hasNumbers_0 : decode cX6_hasNumbers 0 = .ok (.iload_n 2, 1) := by decide +kernel
theorem dX6_hasNumbers_1 : decode cX6_hasNumbers 1 = .ok (.ifCond .lt 29, 3) := by decide +kernel
theorem dX6_hasNumbers_4 : decode cX6_hasNumbers 4 = .ok (.iload_n 1, 1) := by decide +kernel
theorem dX6_hasNumbers_5 : decode cX6_hasNumbers 5 = .ok (.ifCond .lt 25, 3) := by decide +kernel
theorem dX6_hasNumbers_8 : decode cX6_hasNumbers 8 = .ok (.iload_n 1, 1) := by decide +kernel
theorem dX6_hasNumbers_9 : decode cX6_hasNumbers 9 = .ok (.aload_n 0, 1) := by decide +kernel
theorem dX6_hasNumbers_10 : decode cX6_hasNumbers 10 = .ok (.getfield 23, 3) := by decide +kernel
theorem dX6_hasNumbers_13 : decode cX6_hasNumbers 13 = .ok (.if_icmp .gt 17, 3) := by decide +kernel
theorem dX6_hasNumbers_16 : decode cX6_hasNumbers 16 = .ok (.iload_n 2, 1) := by decide +kernel
theorem dX6_hasNumbers_17 : decode cX6_hasNumbers 17 = .ok (.aload_n 0, 1) := by decide +kernel
theorem dX6_hasNumbers_18 : decode cX6_hasNumbers 18 = .ok (.getfield 23, 3) := by decide +kernel
theorem dX6_hasNumbers_21 : decode cX6_hasNumbers 21 = .ok (.iload_n 1, 1) := by decide +kernel
theorem dX6_hasNumbers_22 : decode cX6_hasNumbers 22 = .ok (.isub, 1) := by decide +kernel
theorem dX6_hasNumbers_23 : decode cX6_hasNumbers 23 = .ok (.if_icmp .gt 7, 3) := by decide +kernel
theorem dX6_hasNumbers_26 : decode cX6_hasNumbers 26 = .ok (.iconst 1, 1) := by decide +kernel
theorem dX6_hasNumbers_27 : decode cX6_hasNumbers 27 = .ok (.goto 4, 3) := by decide +kernel
theorem dX6_hasNumbers_30 : decode cX6_hasNumbers 30 = .ok (.iconst 0, 1) := by decide +kernel
theorem dX6_hasNumbers_31 : decode cX6_hasNumbers 31 = .ok (.ireturn, 1) := by decide +kernel
theorem dX6_faultOfSort_0 : decode cX6_faultOfSort 0 = .ok (.aload_n 0, 1) := by decide +kernel
theorem dX6_faultOfSort_1 : decode cX6_faultOfSort 1 = .ok (.getfield 15, 3) := by decide +kernel
theorem dX6_faultOfSort_4 : decode cX6_faultOfSort 4 = .ok (.ifCond .ne 5, 3) := by decide +kernel
theorem dX6_faultOfSort_7 : decode cX6_faultOfSort 7 = .ok (.iconst 1, 1) := by decide +kernel
theorem dX6_faultOfSort_8 : decode cX6_faultOfSort 8 = .ok (.ireturn, 1) := by decide +kernel
theorem dX6_faultOfSort_9 : decode cX6_faultOfSort 9 = .ok (.aload_n 0, 1) := by decide +kernel
theorem dX6_faultOfSort_10 : decode cX6_faultOfSort 10 = .ok (.getfield 19, 3) := by decide +kernel
theorem dX6_faultOfSort_13 : decode cX6_faultOfSort 13 = .ok (.iload_n 1, 1) := by decide +kernel
theorem dX6_faultOfSort_14 : decode cX6_faultOfSort 14 = .ok (.if_icmp .ne 7, 3) := by decide +kernel
theorem dX6_faultOfSort_17 : decode cX6_faultOfSort 17 = .ok (.iconst 0, 1) := by decide +kernel
theorem dX6_faultOfSort_18 : decode cX6_faultOfSort 18 = .ok (.goto 4, 3) := by decide +kernel
theorem dX6_faultOfSort_21 : decode cX6_faultOfSort 21 = .ok (.iconst 2, 1) := by decide +kernel
theorem dX6_faultOfSort_22 : decode cX6_faultOfSort 22 = .ok (.ireturn, 1) := by decide +kernel
theorem dX6_faultOfRow_0 : decode cX6_faultOfRow 0 = .ok (.aload_n 0, 1) := by decide +kernel
theorem dX6_faultOfRow_1 : decode cX6_faultOfRow 1 = .ok (.iload_n 1, 1) := by decide +kernel
theorem dX6_faultOfRow_2 : decode cX6_faultOfRow 2 = .ok (.invokevirtual 32, 3) := by decide +kernel
theorem dX6_faultOfRow_5 : decode cX6_faultOfRow 5 = .ok (.istore 4, 2) := by decide +kernel
theorem dX6_faultOfRow_7 : decode cX6_faultOfRow 7 = .ok (.iload 4, 2) := by decide +kernel
theorem dX6_faultOfRow_9 : decode cX6_faultOfRow 9 = .ok (.ifCond .eq 6, 3) := by decide +kernel
theorem dX6_faultOfRow_12 : decode cX6_faultOfRow 12 = .ok (.iload 4, 2) := by decide +kernel
theorem dX6_faultOfRow_14 : decode cX6_faultOfRow 14 = .ok (.ireturn, 1) := by decide +kernel
theorem dX6_faultOfRow_15 : decode cX6_faultOfRow 15 = .ok (.iload_n 3, 1) := by decide +kernel
theorem dX6_faultOfRow_16 : decode cX6_faultOfRow 16 = .ok (.ifCond .ge 5, 3) := by decide +kernel
theorem dX6_faultOfRow_19 : decode cX6_faultOfRow 19 = .ok (.iconst 4, 1) := by decide +kernel
theorem dX6_faultOfRow_20 : decode cX6_faultOfRow 20 = .ok (.ireturn, 1) := by decide +kernel
theorem dX6_faultOfRow_21 : decode cX6_faultOfRow 21 = .ok (.aload_n 0, 1) := by decide +kernel
theorem dX6_faultOfRow_22 : decode cX6_faultOfRow 22 = .ok (.iload_n 2, 1) := by decide +kernel
theorem dX6_faultOfRow_23 : decode cX6_faultOfRow 23 = .ok (.iload_n 3, 1) := by decide +kernel
theorem dX6_faultOfRow_24 : decode cX6_faultOfRow 24 = .ok (.invokevirtual 36, 3) := by decide +kernel
theorem dX6_faultOfRow_27 : decode cX6_faultOfRow 27 = .ok (.ifCond .eq 7, 3) := by decide +kernel
theorem dX6_faultOfRow_30 : decode cX6_faultOfRow 30 = .ok (.iconst 0, 1) := by decide +kernel
theorem dX6_faultOfRow_31 : decode cX6_faultOfRow 31 = .ok (.goto 4, 3) := by decide +kernel
theorem dX6_faultOfRow_34 : decode cX6_faultOfRow 34 = .ok (.iconst 3, 1) := by decide +kernel
theorem dX6_faultOfRow_35 : decode cX6_faultOfRow 35 = .ok (.ireturn, 1) := by decide +kernel
theorem dX7_init_0 : decode cX7_init 0 = .ok (.aload_n 0, 1) := by decide +kernel
theorem dX7_init_1 : decode cX7_init 1 = .ok (.invokespecial 3, 3) := by decide +kernel
theorem dX7_init_4 : decode cX7_init 4 = .ok (.aload_n 0, 1) := by decide +kernel
theorem dX7_init_5 : decode cX7_init 5 = .ok (.aload_n 1, 1) := by decide +kernel
theorem dX7_init_6 : decode cX7_init 6 = .ok (.putfield 9, 3) := by decide +kernel
theorem dX7_init_9 : decode cX7_init 9 = .ok (.aload_n 0, 1) := by decide +kernel
theorem dX7_init_10 : decode cX7_init 10 = .ok (.aload_n 2, 1) := by decide +kernel
theorem dX7_init_11 : decode cX7_init 11 = .ok (.putfield 15, 3) := by decide +kernel
theorem dX7_init_14 : decode cX7_init 14 = .ok (.aload_n 0, 1) := by decide +kernel
theorem dX7_init_15 : decode cX7_init 15 = .ok (.aload_n 3, 1) := by decide +kernel
theorem dX7_init_16 : decode cX7_init 16 = .ok (.putfield 19, 3) := by decide +kernel
theorem dX7_init_19 : decode cX7_init 19 = .ok (.aload_n 0, 1) := by decide +kernel
theorem dX7_init_20 : decode cX7_init 20 = .ok (.bipush 6, 2) := by decide +kernel
theorem dX7_init_22 : decode cX7_init 22 = .ok (.newarray .long, 2) := by decide +kernel
theorem dX7_init_24 : decode cX7_init 24 = .ok (.putfield 23, 3) := by decide +kernel
theorem dX7_init_27 : decode cX7_init 27 = .ok (.aload_n 0, 1) := by decide +kernel
theorem dX7_init_28 : decode cX7_init 28 = .ok (.bipush 6, 2) := by decide +kernel
theorem dX7_init_30 : decode cX7_init 30 = .ok (.newarray .int, 2) := by decide +kernel
theorem dX7_init_32 : decode cX7_init 32 = .ok (.putfield 27, 3) := by decide +kernel
theorem dX7_init_35 : decode cX7_init 35 = .ok (.return_, 1) := by decide +kernel
theorem dX7_fewestToKeep_0 : decode cX7_fewestToKeep 0 = .ok (.aload_n 0, 1) := by decide +kernel
theorem dX7_fewestToKeep_1 : decode cX7_fewestToKeep 1 = .ok (.iload_n 1, 1) := by decide +kernel
theorem dX7_fewestToKeep_2 : decode cX7_fewestToKeep 2 = .ok (.putfield 31, 3) := by decide +kernel
theorem dX7_fewestToKeep_5 : decode cX7_fewestToKeep 5 = .ok (.iconst 0, 1) := by decide +kernel
theorem dX7_fewestToKeep_6 : decode cX7_fewestToKeep 6 = .ok (.istore_n 3, 1) := by decide +kernel
theorem dX7_fewestToKeep_7 : decode cX7_fewestToKeep 7 = .ok (.iconst 0, 1) := by decide +kernel
theorem dX7_fewestToKeep_8 : decode cX7_fewestToKeep 8 = .ok (.istore 4, 2) := by decide +kernel
theorem dX7_fewestToKeep_10 : decode cX7_fewestToKeep 10 = .ok (.iload 4, 2) := by decide +kernel
theorem dX7_fewestToKeep_12 : decode cX7_fewestToKeep 12 = .ok (.aload_n 0, 1) := by decide +kernel
theorem dX7_fewestToKeep_13 : decode cX7_fewestToKeep 13 = .ok (.getfield 15, 3) := by decide +kernel
theorem dX7_fewestToKeep_16 : decode cX7_fewestToKeep 16 = .ok (.getfield 35, 3) := by decide +kernel
theorem dX7_fewestToKeep_19 : decode cX7_fewestToKeep 19 = .ok (.if_icmp .ge 71, 3) := by decide +kernel
theorem dX7_fewestToKeep_22 : decode cX7_fewestToKeep 22 = .ok (.aload_n 0, 1) := by decide +kernel
theorem dX7_fewestToKeep_23 : decode cX7_fewestToKeep 23 = .ok (.getfield 23, 3) := by decide +kernel
theorem dX7_fewestToKeep_26 : decode cX7_fewestToKeep 26 = .ok (.iload 4, 2) := by decide +kernel
theorem dX7_fewestToKeep_28 : decode cX7_fewestToKeep 28 = .ok (.aload_n 0, 1) := by decide +kernel
theorem dX7_fewestToKeep_29 : decode cX7_fewestToKeep 29 = .ok (.getfield 19, 3) := by decide +kernel
theorem dX7_fewestToKeep_32 : decode cX7_fewestToKeep 32 = .ok (.iload 4, 2) := by decide +kernel
theorem dX7_fewestToKeep_34 : decode cX7_fewestToKeep 34 = .ok (.iload_n 2, 1) := by decide +kernel
theorem dX7_fewestToKeep_35 : decode cX7_fewestToKeep 35 = .ok (.invokevirtual 40, 3) := by decide +kernel
theorem dX7_fewestToKeep_38 : decode cX7_fewestToKeep 38 = .ok (.lastore, 1) := by decide +kernel
theorem dX7_fewestToKeep_39 : decode cX7_fewestToKeep 39 = .ok (.aload_n 0, 1) := by decide +kernel
theorem dX7_fewestToKeep_40 : decode cX7_fewestToKeep 40 = .ok (.getfield 27, 3) := by decide +kernel
theorem dX7_fewestToKeep_43 : decode cX7_fewestToKeep 43 = .ok (.iload 4, 2) := by decide +kernel
theorem dX7_fewestToKeep_45 : decode cX7_fewestToKeep 45 = .ok (.aload_n 0, 1) := by decide +kernel
theorem dX7_fewestToKeep_46 : decode cX7_fewestToKeep 46 = .ok (.getfield 9, 3) := by decide +kernel
theorem dX7_fewestToKeep_49 : decode cX7_fewestToKeep 49 = .ok (.aload_n 0, 1) := by decide +kernel
theorem dX7_fewestToKeep_50 : decode cX7_fewestToKeep 50 = .ok (.getfield 15, 3) := by decide +kernel
theorem dX7_fewestToKeep_53 : decode cX7_fewestToKeep 53 = .ok (.getfield 46, 3) := by decide +kernel
theorem dX7_fewestToKeep_56 : decode cX7_fewestToKeep 56 = .ok (.iload 4, 2) := by decide +kernel
theorem dX7_fewestToKeep_58 : decode cX7_fewestToKeep 58 = .ok (.iaload, 1) := by decide +kernel
theorem dX7_fewestToKeep_59 : decode cX7_fewestToKeep 59 = .ok (.iload_n 2, 1) := by decide +kernel
theorem dX7_fewestToKeep_60 : decode cX7_fewestToKeep 60 = .ok (.invokevirtual 49, 3) := by decide +kernel
theorem dX7_fewestToKeep_63 : decode cX7_fewestToKeep 63 = .ok (.iastore, 1) := by decide +kernel
theorem dX7_fewestToKeep_64 : decode cX7_fewestToKeep 64 = .ok (.iload_n 3, 1) := by decide +kernel
theorem dX7_fewestToKeep_65 : decode cX7_fewestToKeep 65 = .ok (.iload 4, 2) := by decide +kernel
theorem dX7_fewestToKeep_67 : decode cX7_fewestToKeep 67 = .ok (.iload_n 1, 1) := by decide +kernel
theorem dX7_fewestToKeep_68 : decode cX7_fewestToKeep 68 = .ok (.if_icmp .ne 7, 3) := by decide +kernel
theorem dX7_fewestToKeep_71 : decode cX7_fewestToKeep 71 = .ok (.iconst 0, 1) := by decide +kernel
theorem dX7_fewestToKeep_72 : decode cX7_fewestToKeep 72 = .ok (.goto 10, 3) := by decide +kernel
theorem dX7_fewestToKeep_75 : decode cX7_fewestToKeep 75 = .ok (.aload_n 0, 1) := by decide +kernel
theorem dX7_fewestToKeep_76 : decode cX7_fewestToKeep 76 = .ok (.getfield 27, 3) := by decide +kernel
theorem dX7_fewestToKeep_79 : decode cX7_fewestToKeep 79 = .ok (.iload 4, 2) := by decide +kernel
theorem dX7_fewestToKeep_81 : decode cX7_fewestToKeep 81 = .ok (.iaload, 1) := by decide +kernel
theorem dX7_fewestToKeep_82 : decode cX7_fewestToKeep 82 = .ok (.ior, 1) := by decide +kernel
theorem dX7_fewestToKeep_83 : decode cX7_fewestToKeep 83 = .ok (.istore_n 3, 1) := by decide +kernel
theorem dX7_fewestToKeep_84 : decode cX7_fewestToKeep 84 = .ok (.iinc 4 1, 3) := by decide +kernel
theorem dX7_fewestToKeep_87 : decode cX7_fewestToKeep 87 = .ok (.goto (-77), 3) := by decide +kernel
theorem dX7_fewestToKeep_90 : decode cX7_fewestToKeep 90 = .ok (.aload_n 0, 1) := by decide +kernel
theorem dX7_fewestToKeep_91 : decode cX7_fewestToKeep 91 = .ok (.iload_n 3, 1) := by decide +kernel
theorem dX7_fewestToKeep_92 : decode cX7_fewestToKeep 92 = .ok (.aload_n 0, 1) := by decide +kernel
theorem dX7_fewestToKeep_93 : decode cX7_fewestToKeep 93 = .ok (.getfield 9, 3) := by decide +kernel
theorem dX7_fewestToKeep_96 : decode cX7_fewestToKeep 96 = .ok (.getfield 55, 3) := by decide +kernel
theorem dX7_fewestToKeep_99 : decode cX7_fewestToKeep 99 = .ok (.iconst (-1), 1) := by decide +kernel
theorem dX7_fewestToKeep_100 : decode cX7_fewestToKeep 100 = .ok (.ixor, 1) := by decide +kernel
theorem dX7_fewestToKeep_101 : decode cX7_fewestToKeep 101 = .ok (.iand, 1) := by decide +kernel
theorem dX7_fewestToKeep_102 : decode cX7_fewestToKeep 102 = .ok (.aload_n 0, 1) := by decide +kernel
theorem dX7_fewestToKeep_103 : decode cX7_fewestToKeep 103 = .ok (.getfield 15, 3) := by decide +kernel
theorem dX7_fewestToKeep_106 : decode cX7_fewestToKeep 106 = .ok (.invokevirtual 58, 3) := by decide +kernel
theorem dX7_fewestToKeep_109 : decode cX7_fewestToKeep 109 = .ok (.iconst (-1), 1) := by decide +kernel
theorem dX7_fewestToKeep_110 : decode cX7_fewestToKeep 110 = .ok (.ixor, 1) := by decide +kernel
theorem dX7_fewestToKeep_111 : decode cX7_fewestToKeep 111 = .ok (.iand, 1) := by decide +kernel
theorem dX7_fewestToKeep_112 : decode cX7_fewestToKeep 112 = .ok (.iconst 1, 1) := by decide +kernel
theorem dX7_fewestToKeep_113 : decode cX7_fewestToKeep 113 = .ok (.iload_n 2, 1) := by decide +kernel
theorem dX7_fewestToKeep_114 : decode cX7_fewestToKeep 114 = .ok (.ishl, 1) := by decide +kernel
theorem dX7_fewestToKeep_115 : decode cX7_fewestToKeep 115 = .ok (.iconst (-1), 1) := by decide +kernel
theorem dX7_fewestToKeep_116 : decode cX7_fewestToKeep 116 = .ok (.ixor, 1) := by decide +kernel
theorem dX7_fewestToKeep_117 : decode cX7_fewestToKeep 117 = .ok (.iand, 1) := by decide +kernel
theorem dX7_fewestToKeep_118 : decode cX7_fewestToKeep 118 = .ok (.putfield 62, 3) := by decide +kernel
theorem dX7_fewestToKeep_121 : decode cX7_fewestToKeep 121 = .ok (.iconst 0, 1) := by decide +kernel
theorem dX7_fewestToKeep_122 : decode cX7_fewestToKeep 122 = .ok (.istore 4, 2) := by decide +kernel
theorem dX7_fewestToKeep_124 : decode cX7_fewestToKeep 124 = .ok (.iload 4, 2) := by decide +kernel
theorem dX7_fewestToKeep_126 : decode cX7_fewestToKeep 126 = .ok (.iconst 3, 1) := by decide +kernel
theorem dX7_fewestToKeep_127 : decode cX7_fewestToKeep 127 = .ok (.if_icmp .gt 29, 3) := by decide +kernel
theorem dX7_fewestToKeep_130 : decode cX7_fewestToKeep 130 = .ok (.aload_n 0, 1) := by decide +kernel
theorem dX7_fewestToKeep_131 : decode cX7_fewestToKeep 131 = .ok (.iconst 0, 1) := by decide +kernel
theorem dX7_fewestToKeep_132 : decode cX7_fewestToKeep 132 = .ok (.iload 4, 2) := by decide +kernel
theorem dX7_fewestToKeep_134 : decode cX7_fewestToKeep 134 = .ok (.iconst 0, 1) := by decide +kernel
theorem dX7_fewestToKeep_135 : decode cX7_fewestToKeep 135 = .ok (.invokestatic 65, 3) := by decide +kernel
theorem dX7_fewestToKeep_138 : decode cX7_fewestToKeep 138 = .ok (.istore 5, 2) := by decide +kernel
theorem dX7_fewestToKeep_140 : decode cX7_fewestToKeep 140 = .ok (.iload 5, 2) := by decide +kernel
theorem dX7_fewestToKeep_142 : decode cX7_fewestToKeep 142 = .ok (.bipush (-9), 2) := by decide +kernel
theorem dX7_fewestToKeep_144 : decode cX7_fewestToKeep 144 = .ok (.if_icmp .eq 6, 3) := by decide +kernel
theorem dX7_fewestToKeep_147 : decode cX7_fewestToKeep 147 = .ok (.iload 5, 2) := by decide +kernel
theorem dX7_fewestToKeep_149 : decode cX7_fewestToKeep 149 = .ok (.ireturn, 1) := by decide +kernel
theorem dX7_fewestToKeep_150 : decode cX7_fewestToKeep 150 = .ok (.iinc 4 1, 3) := by decide +kernel
theorem dX7_fewestToKeep_153 : decode cX7_fewestToKeep 153 = .ok (.goto (-29), 3) := by decide +kernel
theorem dX7_fewestToKeep_156 : decode cX7_fewestToKeep 156 = .ok (.bipush (-9), 2) := by decide +kernel
theorem dX7_fewestToKeep_158 : decode cX7_fewestToKeep 158 = .ok (.ireturn, 1) := by decide +kernel
theorem dX7_firstSet_0 : decode cX7_firstSet 0 = .ok (.iload_n 2, 1) := by decide +kernel
theorem dX7_firstSet_1 : decode cX7_firstSet 1 = .ok (.ifCond .gt 18, 3) := by decide +kernel
theorem dX7_firstSet_4 : decode cX7_firstSet 4 = .ok (.aload_n 0, 1) := by decide +kernel
theorem dX7_firstSet_5 : decode cX7_firstSet 5 = .ok (.iload_n 3, 1) := by decide +kernel
theorem dX7_firstSet_6 : decode cX7_firstSet 6 = .ok (.invokevirtual 69, 3) := by decide +kernel
theorem dX7_firstSet_9 : decode cX7_firstSet 9 = .ok (.ifCond .eq 7, 3) := by decide +kernel
theorem dX7_firstSet_12 : decode cX7_firstSet 12 = .ok (.iload_n 3, 1) := by decide +kernel
theorem dX7_firstSet_13 : decode cX7_firstSet 13 = .ok (.goto 5, 3) := by decide +kernel
theorem dX7_firstSet_16 : decode cX7_firstSet 16 = .ok (.bipush (-9), 2) := by decide +kernel
theorem dX7_firstSet_18 : decode cX7_firstSet 18 = .ok (.ireturn, 1) := by decide +kernel
theorem dX7_firstSet_19 : decode cX7_firstSet 19 = .ok (.iload_n 1, 1) := by decide +kernel
theorem dX7_firstSet_20 : decode cX7_firstSet 20 = .ok (.istore 4, 2) := by decide +kernel
theorem dX7_firstSet_22 : decode cX7_firstSet 22 = .ok (.iload 4, 2) := by decide +kernel
theorem dX7_firstSet_24 : decode cX7_firstSet 24 = .ok (.aload_n 0, 1) := by decide +kernel
theorem dX7_firstSet_25 : decode cX7_firstSet 25 = .ok (.getfield 9, 3) := by decide +kernel
theorem dX7_firstSet_28 : decode cX7_firstSet 28 = .ok (.getfield 73, 3) := by decide +kernel
theorem dX7_firstSet_31 : decode cX7_firstSet 31 = .ok (.if_icmp .ge 51, 3) := by decide +kernel
theorem dX7_firstSet_34 : decode cX7_firstSet 34 = .ok (.aload_n 0, 1) := by decide +kernel
theorem dX7_firstSet_35 : decode cX7_firstSet 35 = .ok (.getfield 62, 3) := by decide +kernel
theorem dX7_firstSet_38 : decode cX7_firstSet 38 = .ok (.iload 4, 2) := by decide +kernel
theorem dX7_firstSet_40 : decode cX7_firstSet 40 = .ok (.ishr, 1) := by decide +kernel
theorem dX7_firstSet_41 : decode cX7_firstSet 41 = .ok (.iconst 1, 1) := by decide +kernel
theorem dX7_firstSet_42 : decode cX7_firstSet 42 = .ok (.iand, 1) := by decide +kernel
theorem dX7_firstSet_43 : decode cX7_firstSet 43 = .ok (.iconst 1, 1) := by decide +kernel
theorem dX7_firstSet_44 : decode cX7_firstSet 44 = .ok (.if_icmp .ne 32, 3) := by decide +kernel
theorem dX7_firstSet_47 : decode cX7_firstSet 47 = .ok (.aload_n 0, 1) := by decide +kernel
theorem dX7_firstSet_48 : decode cX7_firstSet 48 = .ok (.iload 4, 2) := by decide +kernel
theorem dX7_firstSet_50 : decode cX7_firstSet 50 = .ok (.iconst 1, 1) := by decide +kernel
theorem dX7_firstSet_51 : decode cX7_firstSet 51 = .ok (.iadd, 1) := by decide +kernel
theorem dX7_firstSet_52 : decode cX7_firstSet 52 = .ok (.iload_n 2, 1) := by decide +kernel
theorem dX7_firstSet_53 : decode cX7_firstSet 53 = .ok (.iconst 1, 1) := by decide +kernel
theorem dX7_firstSet_54 : decode cX7_firstSet 54 = .ok (.isub, 1) := by decide +kernel
theorem dX7_firstSet_55 : decode cX7_firstSet 55 = .ok (.iload_n 3, 1) := by decide +kernel
theorem dX7_firstSet_56 : decode cX7_firstSet 56 = .ok (.iconst 1, 1) := by decide +kernel
theorem dX7_firstSet_57 : decode cX7_firstSet 57 = .ok (.iload 4, 2) := by decide +kernel
theorem dX7_firstSet_59 : decode cX7_firstSet 59 = .ok (.ishl, 1) := by decide +kernel
theorem dX7_firstSet_60 : decode cX7_firstSet 60 = .ok (.ior, 1) := by decide +kernel
theorem dX7_firstSet_61 : decode cX7_firstSet 61 = .ok (.invokestatic 65, 3) := by decide +kernel
theorem dX7_firstSet_64 : decode cX7_firstSet 64 = .ok (.istore 5, 2) := by decide +kernel
theorem dX7_firstSet_66 : decode cX7_firstSet 66 = .ok (.iload 5, 2) := by decide +kernel
theorem dX7_firstSet_68 : decode cX7_firstSet 68 = .ok (.bipush (-9), 2) := by decide +kernel
theorem dX7_firstSet_70 : decode cX7_firstSet 70 = .ok (.if_icmp .eq 6, 3) := by decide +kernel
theorem dX7_firstSet_73 : decode cX7_firstSet 73 = .ok (.iload 5, 2) := by decide +kernel
theorem dX7_firstSet_75 : decode cX7_firstSet 75 = .ok (.ireturn, 1) := by decide +kernel
theorem dX7_firstSet_76 : decode cX7_firstSet 76 = .ok (.iinc 4 1, 3) := by decide +kernel
theorem dX7_firstSet_79 : decode cX7_firstSet 79 = .ok (.goto (-57), 3) := by decide +kernel
theorem dX7_firstSet_82 : decode cX7_firstSet 82 = .ok (.bipush (-9), 2) := by decide +kernel
theorem dX7_firstSet_84 : decode cX7_firstSet 84 = .ok (.ireturn, 1) := by decide +kernel
theorem dX7_isKeptBy_0 : decode cX7_isKeptBy 0 = .ok (.aload_n 0, 1) := by decide +kernel
theorem dX7_isKeptBy_1 : decode cX7_isKeptBy 1 = .ok (.aload_n 0, 1) := by decide +kernel
theorem dX7_isKeptBy_2 : decode cX7_isKeptBy 2 = .ok (.getfield 31, 3) := by decide +kernel
theorem dX7_isKeptBy_5 : decode cX7_isKeptBy 5 = .ok (.iload_n 1, 1) := by decide +kernel
theorem dX7_isKeptBy_6 : decode cX7_isKeptBy 6 = .ok (.invokevirtual 76, 3) := by decide +kernel
theorem dX7_isKeptBy_9 : decode cX7_isKeptBy 9 = .ok (.lstore_n 2, 1) := by decide +kernel
theorem dX7_isKeptBy_10 : decode cX7_isKeptBy 10 = .ok (.lload_n 2, 1) := by decide +kernel
theorem dX7_isKeptBy_11 : decode cX7_isKeptBy 11 = .ok (.aload_n 0, 1) := by decide +kernel
theorem dX7_isKeptBy_12 : decode cX7_isKeptBy 12 = .ok (.getfield 19, 3) := by decide +kernel
theorem dX7_isKeptBy_15 : decode cX7_isKeptBy 15 = .ok (.getfield 79, 3) := by decide +kernel
theorem dX7_isKeptBy_18 : decode cX7_isKeptBy 18 = .ok (.lcmp, 1) := by decide +kernel
theorem dX7_isKeptBy_19 : decode cX7_isKeptBy 19 = .ok (.ifCond .ge 5, 3) := by decide +kernel
theorem dX7_isKeptBy_22 : decode cX7_isKeptBy 22 = .ok (.iconst 0, 1) := by decide +kernel
theorem dX7_isKeptBy_23 : decode cX7_isKeptBy 23 = .ok (.ireturn, 1) := by decide +kernel
theorem dX7_isKeptBy_24 : decode cX7_isKeptBy 24 = .ok (.iconst 0, 1) := by decide +kernel
theorem dX7_isKeptBy_25 : decode cX7_isKeptBy 25 = .ok (.istore 4, 2) := by decide +kernel
theorem dX7_isKeptBy_27 : decode cX7_isKeptBy 27 = .ok (.iload 4, 2) := by decide +kernel
theorem dX7_isKeptBy_29 : decode cX7_isKeptBy 29 = .ok (.aload_n 0, 1) := by decide +kernel
theorem dX7_isKeptBy_30 : decode cX7_isKeptBy 30 = .ok (.getfield 15, 3) := by decide +kernel
theorem dX7_isKeptBy_33 : decode cX7_isKeptBy 33 = .ok (.getfield 35, 3) := by decide +kernel
theorem dX7_isKeptBy_36 : decode cX7_isKeptBy 36 = .ok (.if_icmp .ge 32, 3) := by decide +kernel
theorem dX7_isKeptBy_39 : decode cX7_isKeptBy 39 = .ok (.iload 4, 2) := by decide +kernel
theorem dX7_isKeptBy_41 : decode cX7_isKeptBy 41 = .ok (.aload_n 0, 1) := by decide +kernel
theorem dX7_isKeptBy_42 : decode cX7_isKeptBy 42 = .ok (.getfield 31, 3) := by decide +kernel
theorem dX7_isKeptBy_45 : decode cX7_isKeptBy 45 = .ok (.if_icmp .eq 17, 3) := by decide +kernel
theorem dX7_isKeptBy_48 : decode cX7_isKeptBy 48 = .ok (.aload_n 0, 1) := by decide +kernel
theorem dX7_isKeptBy_49 : decode cX7_isKeptBy 49 = .ok (.iload 4, 2) := by decide +kernel
theorem dX7_isKeptBy_51 : decode cX7_isKeptBy 51 = .ok (.iload_n 1, 1) := by decide +kernel
theorem dX7_isKeptBy_52 : decode cX7_isKeptBy 52 = .ok (.invokevirtual 76, 3) := by decide +kernel
theorem dX7_isKeptBy_55 : decode cX7_isKeptBy 55 = .ok (.lload_n 2, 1) := by decide +kernel
theorem dX7_isKeptBy_56 : decode cX7_isKeptBy 56 = .ok (.lcmp, 1) := by decide +kernel
theorem dX7_isKeptBy_57 : decode cX7_isKeptBy 57 = .ok (.ifCond .lt 5, 3) := by decide +kernel
theorem dX7_isKeptBy_60 : decode cX7_isKeptBy 60 = .ok (.iconst 0, 1) := by decide +kernel
theorem dX7_isKeptBy_61 : decode cX7_isKeptBy 61 = .ok (.ireturn, 1) := by decide +kernel
theorem dX7_isKeptBy_62 : decode cX7_isKeptBy 62 = .ok (.iinc 4 1, 3) := by decide +kernel
theorem dX7_isKeptBy_65 : decode cX7_isKeptBy 65 = .ok (.goto (-38), 3) := by decide +kernel
theorem dX7_isKeptBy_68 : decode cX7_isKeptBy 68 = .ok (.iconst 1, 1) := by decide +kernel
theorem dX7_isKeptBy_69 : decode cX7_isKeptBy 69 = .ok (.ireturn, 1) := by decide +kernel
theorem dX7_dimmed_0 : decode cX7_dimmed 0 = .ok (.aload_n 0, 1) := by decide +kernel
theorem dX7_dimmed_1 : decode cX7_dimmed 1 = .ok (.getfield 23, 3) := by decide +kernel
theorem dX7_dimmed_4 : decode cX7_dimmed 4 = .ok (.iload_n 1, 1) := by decide +kernel
theorem dX7_dimmed_5 : decode cX7_dimmed 5 = .ok (.laload, 1) := by decide +kernel
theorem dX7_dimmed_6 : decode cX7_dimmed 6 = .ok (.aload_n 0, 1) := by decide +kernel
theorem dX7_dimmed_7 : decode cX7_dimmed 7 = .ok (.getfield 27, 3) := by decide +kernel
theorem dX7_dimmed_10 : decode cX7_dimmed 10 = .ok (.iload_n 1, 1) := by decide +kernel
theorem dX7_dimmed_11 : decode cX7_dimmed 11 = .ok (.iaload, 1) := by decide +kernel
theorem dX7_dimmed_12 : decode cX7_dimmed 12 = .ok (.iload_n 2, 1) := by decide +kernel
theorem dX7_dimmed_13 : decode cX7_dimmed 13 = .ok (.iand, 1) := by decide +kernel
theorem dX7_dimmed_14 : decode cX7_dimmed 14 = .ok (.invokestatic 83, 3) := by decide +kernel
theorem dX7_dimmed_17 : decode cX7_dimmed 17 = .ok (.lshr, 1) := by decide +kernel
theorem dX7_dimmed_18 : decode cX7_dimmed 18 = .ok (.lreturn, 1) := by decide +kernel
theorem dX8_init_0 : decode cX8_init 0 = .ok (.aload_n 0, 1) := by decide +kernel
theorem dX8_init_1 : decode cX8_init 1 = .ok (.invokespecial 5, 3) := by decide +kernel
theorem dX8_init_4 : decode cX8_init 4 = .ok (.aload_n 0, 1) := by decide +kernel
theorem dX8_init_5 : decode cX8_init 5 = .ok (.new 11, 3) := by decide +kernel
theorem dX8_init_8 : decode cX8_init 8 = .ok (.dup, 1) := by decide +kernel
theorem dX8_init_9 : decode cX8_init 9 = .ok (.invokespecial 13, 3) := by decide +kernel
theorem dX8_init_12 : decode cX8_init 12 = .ok (.putfield 14, 3) := by decide +kernel
theorem dX8_init_15 : decode cX8_init 15 = .ok (.aload_n 0, 1) := by decide +kernel
theorem dX8_init_16 : decode cX8_init 16 = .ok (.new 18, 3) := by decide +kernel
theorem dX8_init_19 : decode cX8_init 19 = .ok (.dup, 1) := by decide +kernel
theorem dX8_init_20 : decode cX8_init 20 = .ok (.invokespecial 20, 3) := by decide +kernel
theorem dX8_init_23 : decode cX8_init 23 = .ok (.putfield 21, 3) := by decide +kernel
theorem dX8_init_26 : decode cX8_init 26 = .ok (.aload_n 0, 1) := by decide +kernel
theorem dX8_init_27 : decode cX8_init 27 = .ok (.new 25, 3) := by decide +kernel
theorem dX8_init_30 : decode cX8_init 30 = .ok (.dup, 1) := by decide +kernel
theorem dX8_init_31 : decode cX8_init 31 = .ok (.aload_n 0, 1) := by decide +kernel
theorem dX8_init_32 : decode cX8_init 32 = .ok (.getfield 14, 3) := by decide +kernel
theorem dX8_init_35 : decode cX8_init 35 = .ok (.aload_n 0, 1) := by decide +kernel
theorem dX8_init_36 : decode cX8_init 36 = .ok (.getfield 21, 3) := by decide +kernel
theorem dX8_init_39 : decode cX8_init 39 = .ok (.invokespecial 27, 3) := by decide +kernel
theorem dX8_init_42 : decode cX8_init 42 = .ok (.putfield 30, 3) := by decide +kernel
theorem dX8_init_45 : decode cX8_init 45 = .ok (.aload_n 0, 1) := by decide +kernel
theorem dX8_init_46 : decode cX8_init 46 = .ok (.new 34, 3) := by decide +kernel
theorem dX8_init_49 : decode cX8_init 49 = .ok (.dup, 1) := by decide +kernel
theorem dX8_init_50 : decode cX8_init 50 = .ok (.aload_n 0, 1) := by decide +kernel
theorem dX8_init_51 : decode cX8_init 51 = .ok (.getfield 21, 3) := by decide +kernel
theorem dX8_init_54 : decode cX8_init 54 = .ok (.aload_n 0, 1) := by decide +kernel
theorem dX8_init_55 : decode cX8_init 55 = .ok (.getfield 30, 3) := by decide +kernel
theorem dX8_init_58 : decode cX8_init 58 = .ok (.invokespecial 36, 3) := by decide +kernel
theorem dX8_init_61 : decode cX8_init 61 = .ok (.putfield 39, 3) := by decide +kernel
theorem dX8_init_64 : decode cX8_init 64 = .ok (.aload_n 0, 1) := by decide +kernel
theorem dX8_init_65 : decode cX8_init 65 = .ok (.new 43, 3) := by decide +kernel
theorem dX8_init_68 : decode cX8_init 68 = .ok (.dup, 1) := by decide +kernel
theorem dX8_init_69 : decode cX8_init 69 = .ok (.aload_n 0, 1) := by decide +kernel
theorem dX8_init_70 : decode cX8_init 70 = .ok (.getfield 14, 3) := by decide +kernel
theorem dX8_init_73 : decode cX8_init 73 = .ok (.aload_n 0, 1) := by decide +kernel
theorem dX8_init_74 : decode cX8_init 74 = .ok (.getfield 21, 3) := by decide +kernel
theorem dX8_init_77 : decode cX8_init 77 = .ok (.aload_n 0, 1) := by decide +kernel
theorem dX8_init_78 : decode cX8_init 78 = .ok (.getfield 30, 3) := by decide +kernel
theorem dX8_init_81 : decode cX8_init 81 = .ok (.invokespecial 45, 3) := by decide +kernel
theorem dX8_init_84 : decode cX8_init 84 = .ok (.putfield 48, 3) := by decide +kernel
theorem dX8_init_87 : decode cX8_init 87 = .ok (.aload_n 0, 1) := by decide +kernel
theorem dX8_init_88 : decode cX8_init 88 = .ok (.new 52, 3) := by decide +kernel
theorem dX8_init_91 : decode cX8_init 91 = .ok (.dup, 1) := by decide +kernel
theorem dX8_init_92 : decode cX8_init 92 = .ok (.aload_n 0, 1) := by decide +kernel
theorem dX8_init_93 : decode cX8_init 93 = .ok (.getfield 21, 3) := by decide +kernel
theorem dX8_init_96 : decode cX8_init 96 = .ok (.aload_n 0, 1) := by decide +kernel
theorem dX8_init_97 : decode cX8_init 97 = .ok (.getfield 30, 3) := by decide +kernel
theorem dX8_init_100 : decode cX8_init 100 = .ok (.invokespecial 54, 3) := by decide +kernel
theorem dX8_init_103 : decode cX8_init 103 = .ok (.putfield 55, 3) := by decide +kernel
theorem dX8_init_106 : decode cX8_init 106 = .ok (.aload_n 0, 1) := by decide +kernel
theorem dX8_init_107 : decode cX8_init 107 = .ok (.new 59, 3) := by decide +kernel
theorem dX8_init_110 : decode cX8_init 110 = .ok (.dup, 1) := by decide +kernel
theorem dX8_init_111 : decode cX8_init 111 = .ok (.aload_n 0, 1) := by decide +kernel
theorem dX8_init_112 : decode cX8_init 112 = .ok (.getfield 21, 3) := by decide +kernel
theorem dX8_init_115 : decode cX8_init 115 = .ok (.aload_n 0, 1) := by decide +kernel
theorem dX8_init_116 : decode cX8_init 116 = .ok (.getfield 30, 3) := by decide +kernel
theorem dX8_init_119 : decode cX8_init 119 = .ok (.invokespecial 61, 3) := by decide +kernel
theorem dX8_init_122 : decode cX8_init 122 = .ok (.putfield 62, 3) := by decide +kernel
theorem dX8_init_125 : decode cX8_init 125 = .ok (.aload_n 0, 1) := by decide +kernel
theorem dX8_init_126 : decode cX8_init 126 = .ok (.iconst 4, 1) := by decide +kernel
theorem dX8_init_127 : decode cX8_init 127 = .ok (.anewarray 66, 3) := by decide +kernel
theorem dX8_init_130 : decode cX8_init 130 = .ok (.putfield 68, 3) := by decide +kernel
theorem dX8_init_133 : decode cX8_init 133 = .ok (.iconst 0, 1) := by decide +kernel
theorem dX8_init_134 : decode cX8_init 134 = .ok (.istore_n 1, 1) := by decide +kernel
theorem dX8_init_135 : decode cX8_init 135 = .ok (.iload_n 1, 1) := by decide +kernel
theorem dX8_init_136 : decode cX8_init 136 = .ok (.iconst 4, 1) := by decide +kernel
theorem dX8_init_137 : decode cX8_init 137 = .ok (.if_icmp .ge 22, 3) := by decide +kernel
theorem dX8_init_140 : decode cX8_init 140 = .ok (.aload_n 0, 1) := by decide +kernel
theorem dX8_init_141 : decode cX8_init 141 = .ok (.getfield 68, 3) := by decide +kernel
theorem dX8_init_144 : decode cX8_init 144 = .ok (.iload_n 1, 1) := by decide +kernel
theorem dX8_init_145 : decode cX8_init 145 = .ok (.new 66, 3) := by decide +kernel
theorem dX8_init_148 : decode cX8_init 148 = .ok (.dup, 1) := by decide +kernel
theorem dX8_init_149 : decode cX8_init 149 = .ok (.invokespecial 72, 3) := by decide +kernel
theorem dX8_init_152 : decode cX8_init 152 = .ok (.aastore, 1) := by decide +kernel
theorem dX8_init_153 : decode cX8_init 153 = .ok (.iinc 1 1, 3) := by decide +kernel
theorem dX8_init_156 : decode cX8_init 156 = .ok (.goto (-21), 3) := by decide +kernel
theorem dX8_init_159 : decode cX8_init 159 = .ok (.return_, 1) := by decide +kernel
theorem dX8_land_0 : decode cX8_land 0 = .ok (.aload_n 0, 1) := by decide +kernel
theorem dX8_land_1 : decode cX8_land 1 = .ok (.iconst 0, 1) := by decide +kernel
theorem dX8_land_2 : decode cX8_land 2 = .ok (.putfield 73, 3) := by decide +kernel
theorem dX8_land_5 : decode cX8_land 5 = .ok (.iload_n 1, 1) := by decide +kernel
theorem dX8_land_6 : decode cX8_land 6 = .ok (.invokestatic 77, 3) := by decide +kernel
theorem dX8_land_9 : decode cX8_land 9 = .ok (.ifCond .ne 5, 3) := by decide +kernel
theorem dX8_land_12 : decode cX8_land 12 = .ok (.iconst (-1), 1) := by decide +kernel
theorem dX8_land_13 : decode cX8_land 13 = .ok (.ireturn, 1) := by decide +kernel
theorem dX8_land_14 : decode cX8_land 14 = .ok (.iload_n 2, 1) := by decide +kernel
