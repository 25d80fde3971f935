theorem dX9_init_0 : decode cX9_init 0 = .ok (.aload_n 0, 1) := by decide +kernel
theorem dX9_init_1 : decode cX9_init 1 = .ok (.invokespecial 1, 3) := by decide +kernel
theorem dX9_init_4 : decode cX9_init 4 = .ok (.aload_n 0, 1) := by decide +kernel
theorem dX9_init_5 : decode cX9_init 5 = .ok (.iconst 4, 1) := by decide +kernel
theorem dX9_init_6 : decode cX9_init 6 = .ok (.newarray .int, 2) := by decide +kernel
theorem dX9_init_8 : decode cX9_init 8 = .ok (.dup, 1) := by decide +kernel
theorem dX9_init_9 : decode cX9_init 9 = .ok (.iconst 0, 1) := by decide +kernel
theorem dX9_init_10 : decode cX9_init 10 = .ok (.bipush (-9), 2) := by decide +kernel
theorem dX9_init_12 : decode cX9_init 12 = .ok (.iastore, 1) := by decide +kernel
theorem dX9_init_13 : decode cX9_init 13 = .ok (.dup, 1) := by decide +kernel
theorem dX9_init_14 : decode cX9_init 14 = .ok (.iconst 1, 1) := by decide +kernel
theorem dX9_init_15 : decode cX9_init 15 = .ok (.bipush (-9), 2) := by decide +kernel
theorem dX9_init_17 : decode cX9_init 17 = .ok (.iastore, 1) := by decide +kernel
theorem dX9_init_18 : decode cX9_init 18 = .ok (.dup, 1) := by decide +kernel
theorem dX9_init_19 : decode cX9_init 19 = .ok (.iconst 2, 1) := by decide +kernel
theorem dX9_init_20 : decode cX9_init 20 = .ok (.bipush (-9), 2) := by decide +kernel
theorem dX9_init_22 : decode cX9_init 22 = .ok (.iastore, 1) := by decide +kernel
theorem dX9_init_23 : decode cX9_init 23 = .ok (.dup, 1) := by decide +kernel
theorem dX9_init_24 : decode cX9_init 24 = .ok (.iconst 3, 1) := by decide +kernel
theorem dX9_init_25 : decode cX9_init 25 = .ok (.bipush (-9), 2) := by decide +kernel
theorem dX9_init_27 : decode cX9_init 27 = .ok (.iastore, 1) := by decide +kernel
theorem dX9_init_28 : decode cX9_init 28 = .ok (.putfield 9, 3) := by decide +kernel
theorem dX9_init_31 : decode cX9_init 31 = .ok (.aload_n 0, 1) := by decide +kernel
theorem dX9_init_32 : decode cX9_init 32 = .ok (.iconst 4, 1) := by decide +kernel
theorem dX9_init_33 : decode cX9_init 33 = .ok (.newarray .int, 2) := by decide +kernel
theorem dX9_init_35 : decode cX9_init 35 = .ok (.putfield 13, 3) := by decide +kernel
theorem dX9_init_38 : decode cX9_init 38 = .ok (.aload_n 0, 1) := by decide +kernel
theorem dX9_init_39 : decode cX9_init 39 = .ok (.sipush 240, 3) := by decide +kernel
theorem dX9_init_42 : decode cX9_init 42 = .ok (.newarray .int, 2) := by decide +kernel
theorem dX9_init_44 : decode cX9_init 44 = .ok (.putfield 16, 3) := by decide +kernel
theorem dX9_init_47 : decode cX9_init 47 = .ok (.aload_n 0, 1) := by decide +kernel
theorem dX9_init_48 : decode cX9_init 48 = .ok (.bipush 30, 2) := by decide +kernel
theorem dX9_init_50 : decode cX9_init 50 = .ok (.newarray .int, 2) := by decide +kernel
theorem dX9_init_52 : decode cX9_init 52 = .ok (.putfield 19, 3) := by decide +kernel
theorem dX9_init_55 : decode cX9_init 55 = .ok (.aload_n 0, 1) := by decide +kernel
theorem dX9_init_56 : decode cX9_init 56 = .ok (.bipush 30, 2) := by decide +kernel
theorem dX9_init_58 : decode cX9_init 58 = .ok (.newarray .boolean, 2) := by decide +kernel
theorem dX9_init_60 : decode cX9_init 60 = .ok (.putfield 22, 3) := by decide +kernel
theorem dX9_init_63 : decode cX9_init 63 = .ok (.aload_n 0, 1) := by decide +kernel
theorem dX9_init_64 : decode cX9_init 64 = .ok (.bipush 30, 2) := by decide +kernel
theorem dX9_init_66 : decode cX9_init 66 = .ok (.newarray .int, 2) := by decide +kernel
theorem dX9_init_68 : decode cX9_init 68 = .ok (.putfield 26, 3) := by decide +kernel
theorem dX9_init_71 : decode cX9_init 71 = .ok (.aload_n 0, 1) := by decide +kernel
theorem dX9_init_72 : decode cX9_init 72 = .ok (.bipush 7, 2) := by decide +kernel
theorem dX9_init_74 : decode cX9_init 74 = .ok (.newarray .int, 2) := by decide +kernel
theorem dX9_init_76 : decode cX9_init 76 = .ok (.putfield 29, 3) := by decide +kernel
theorem dX9_init_79 : decode cX9_init 79 = .ok (.aload_n 0, 1) := by decide +kernel
theorem dX9_init_80 : decode cX9_init 80 = .ok (.bipush 7, 2) := by decide +kernel
theorem dX9_init_82 : decode cX9_init 82 = .ok (.newarray .int, 2) := by decide +kernel
theorem dX9_init_84 : decode cX9_init 84 = .ok (.putfield 32, 3) := by decide +kernel
theorem dX9_init_87 : decode cX9_init 87 = .ok (.aload_n 0, 1) := by decide +kernel
theorem dX9_init_88 : decode cX9_init 88 = .ok (.bipush 7, 2) := by decide +kernel
theorem dX9_init_90 : decode cX9_init 90 = .ok (.newarray .int, 2) := by decide +kernel
theorem dX9_init_92 : decode cX9_init 92 = .ok (.putfield 35, 3) := by decide +kernel
theorem dX9_init_95 : decode cX9_init 95 = .ok (.aload_n 0, 1) := by decide +kernel
theorem dX9_init_96 : decode cX9_init 96 = .ok (.sipush 210, 3) := by decide +kernel
theorem dX9_init_99 : decode cX9_init 99 = .ok (.newarray .long, 2) := by decide +kernel
theorem dX9_init_101 : decode cX9_init 101 = .ok (.putfield 38, 3) := by decide +kernel
theorem dX9_init_104 : decode cX9_init 104 = .ok (.aload_n 0, 1) := by decide +kernel
theorem dX9_init_105 : decode cX9_init 105 = .ok (.sipush 210, 3) := by decide +kernel
theorem dX9_init_108 : decode cX9_init 108 = .ok (.newarray .long, 2) := by decide +kernel
theorem dX9_init_110 : decode cX9_init 110 = .ok (.putfield 42, 3) := by decide +kernel
theorem dX9_init_113 : decode cX9_init 113 = .ok (.aload_n 0, 1) := by decide +kernel
theorem dX9_init_114 : decode cX9_init 114 = .ok (.bipush 10, 2) := by decide +kernel
theorem dX9_init_116 : decode cX9_init 116 = .ok (.newarray .int, 2) := by decide +kernel
theorem dX9_init_118 : decode cX9_init 118 = .ok (.putfield 45, 3) := by decide +kernel
theorem dX9_init_121 : decode cX9_init 121 = .ok (.aload_n 0, 1) := by decide +kernel
theorem dX9_init_122 : decode cX9_init 122 = .ok (.bipush 10, 2) := by decide +kernel
theorem dX9_init_124 : decode cX9_init 124 = .ok (.newarray .int, 2) := by decide +kernel
theorem dX9_init_126 : decode cX9_init 126 = .ok (.putfield 48, 3) := by decide +kernel
theorem dX9_init_129 : decode cX9_init 129 = .ok (.aload_n 0, 1) := by decide +kernel
theorem dX9_init_130 : decode cX9_init 130 = .ok (.bipush 10, 2) := by decide +kernel
theorem dX9_init_132 : decode cX9_init 132 = .ok (.newarray .int, 2) := by decide +kernel
theorem dX9_init_134 : decode cX9_init 134 = .ok (.putfield 51, 3) := by decide +kernel
theorem dX9_init_137 : decode cX9_init 137 = .ok (.aload_n 0, 1) := by decide +kernel
theorem dX9_init_138 : decode cX9_init 138 = .ok (.bipush 10, 2) := by decide +kernel
theorem dX9_init_140 : decode cX9_init 140 = .ok (.newarray .int, 2) := by decide +kernel
theorem dX9_init_142 : decode cX9_init 142 = .ok (.putfield 54, 3) := by decide +kernel
theorem dX9_init_145 : decode cX9_init 145 = .ok (.aload_n 0, 1) := by decide +kernel
theorem dX9_init_146 : decode cX9_init 146 = .ok (.iconst 3, 1) := by decide +kernel
theorem dX9_init_147 : decode cX9_init 147 = .ok (.newarray .int, 2) := by decide +kernel
theorem dX9_init_149 : decode cX9_init 149 = .ok (.putfield 57, 3) := by decide +kernel
theorem dX9_init_152 : decode cX9_init 152 = .ok (.aload_n 0, 1) := by decide +kernel
theorem dX9_init_153 : decode cX9_init 153 = .ok (.bipush 36, 2) := by decide +kernel
theorem dX9_init_155 : decode cX9_init 155 = .ok (.newarray .boolean, 2) := by decide +kernel
theorem dX9_init_157 : decode cX9_init 157 = .ok (.putfield 60, 3) := by decide +kernel
theorem dX9_init_160 : decode cX9_init 160 = .ok (.aload_n 0, 1) := by decide +kernel
theorem dX9_init_161 : decode cX9_init 161 = .ok (.bipush 6, 2) := by decide +kernel
theorem dX9_init_163 : decode cX9_init 163 = .ok (.newarray .int, 2) := by decide +kernel
theorem dX9_init_165 : decode cX9_init 165 = .ok (.putfield 63, 3) := by decide +kernel
theorem dX9_init_168 : decode cX9_init 168 = .ok (.aload_n 0, 1) := by decide +kernel
theorem dX9_init_169 : decode cX9_init 169 = .ok (.sipush 1206, 3) := by decide +kernel
theorem dX9_init_172 : decode cX9_init 172 = .ok (.newarray .int, 2) := by decide +kernel
theorem dX9_init_174 : decode cX9_init 174 = .ok (.putfield 66, 3) := by decide +kernel
theorem dX9_init_177 : decode cX9_init 177 = .ok (.return_, 1) := by decide +kernel
theorem dX9_fails_0 : decode cX9_fails 0 = .ok (.aload_n 0, 1) := by decide +kernel
theorem dX9_fails_1 : decode cX9_fails 1 = .ok (.iload_n 1, 1) := by decide +kernel
theorem dX9_fails_2 : decode cX9_fails 2 = .ok (.putfield 69, 3) := by decide +kernel
theorem dX9_fails_5 : decode cX9_fails 5 = .ok (.bipush (-10), 2) := by decide +kernel
theorem dX9_fails_7 : decode cX9_fails 7 = .ok (.iload_n 1, 1) := by decide +kernel
theorem dX9_fails_8 : decode cX9_fails 8 = .ok (.isub, 1) := by decide +kernel
theorem dX9_fails_9 : decode cX9_fails 9 = .ok (.ireturn, 1) := by decide +kernel
theorem dX9_lost_0 : decode cX9_lost 0 = .ok (.aload_n 0, 1) := by decide +kernel
theorem dX9_lost_1 : decode cX9_lost 1 = .ok (.iload_n 1, 1) := by decide +kernel
theorem dX9_lost_2 : decode cX9_lost 2 = .ok (.putfield 69, 3) := by decide +kernel
theorem dX9_lost_5 : decode cX9_lost 5 = .ok (.ldc2_w 73, 3) := by decide +kernel
theorem dX9_lost_8 : decode cX9_lost 8 = .ok (.lreturn, 1) := by decide +kernel
theorem dX9_within_0 : decode cX9_within 0 = .ok (.iload_n 0, 1) := by decide +kernel
theorem dX9_within_1 : decode cX9_within 1 = .ok (.iload_n 1, 1) := by decide +kernel
theorem dX9_within_2 : decode cX9_within 2 = .ok (.if_icmp .lt 12, 3) := by decide +kernel
theorem dX9_within_5 : decode cX9_within 5 = .ok (.iload_n 0, 1) := by decide +kernel
theorem dX9_within_6 : decode cX9_within 6 = .ok (.iload_n 2, 1) := by decide +kernel
theorem dX9_within_7 : decode cX9_within 7 = .ok (.if_icmp .gt 7, 3) := by decide +kernel
theorem dX9_within_10 : decode cX9_within 10 = .ok (.iconst 1, 1) := by decide +kernel
theorem dX9_within_11 : decode cX9_within 11 = .ok (.goto 4, 3) := by decide +kernel
theorem dX9_within_14 : decode cX9_within 14 = .ok (.iconst 0, 1) := by decide +kernel
theorem dX9_within_15 : decode cX9_within 15 = .ok (.ireturn, 1) := by decide +kernel
theorem dX9_share_0 : decode cX9_share 0 = .ok (.lload_n 0, 1) := by decide +kernel
theorem dX9_share_1 : decode cX9_share 1 = .ok (.lstore 5, 2) := by decide +kernel
theorem dX9_share_3 : decode cX9_share 3 = .ok (.lload_n 2, 1) := by decide +kernel
theorem dX9_share_4 : decode cX9_share 4 = .ok (.lstore 7, 2) := by decide +kernel
theorem dX9_share_6 : decode cX9_share 6 = .ok (.lload 7, 2) := by decide +kernel
theorem dX9_share_8 : decode cX9_share 8 = .ok (.lconst 0, 1) := by decide +kernel
theorem dX9_share_9 : decode cX9_share 9 = .ok (.lcmp, 1) := by decide +kernel
theorem dX9_share_10 : decode cX9_share 10 = .ok (.ifCond .eq 21, 3) := by decide +kernel
theorem dX9_share_13 : decode cX9_share 13 = .ok (.lload 5, 2) := by decide +kernel
theorem dX9_share_15 : decode cX9_share 15 = .ok (.lload 7, 2) := by decide +kernel
theorem dX9_share_17 : decode cX9_share 17 = .ok (.lrem, 1) := by decide +kernel
theorem dX9_share_18 : decode cX9_share 18 = .ok (.lstore 9, 2) := by decide +kernel
theorem dX9_share_20 : decode cX9_share 20 = .ok (.lload 7, 2) := by decide +kernel
theorem dX9_share_22 : decode cX9_share 22 = .ok (.lstore 5, 2) := by decide +kernel
theorem dX9_share_24 : decode cX9_share 24 = .ok (.lload 9, 2) := by decide +kernel
theorem dX9_share_26 : decode cX9_share 26 = .ok (.lstore 7, 2) := by decide +kernel
theorem dX9_share_28 : decode cX9_share 28 = .ok (.goto (-22), 3) := by decide +kernel
theorem dX9_share_31 : decode cX9_share 31 = .ok (.iload 4, 2) := by decide +kernel
theorem dX9_share_33 : decode cX9_share 33 = .ok (.ifCond .ne 10, 3) := by decide +kernel
theorem dX9_share_36 : decode cX9_share 36 = .ok (.lload_n 0, 1) := by decide +kernel
theorem dX9_share_37 : decode cX9_share 37 = .ok (.lload 5, 2) := by decide +kernel
theorem dX9_share_39 : decode cX9_share 39 = .ok (.ldiv, 1) := by decide +kernel
theorem dX9_share_40 : decode cX9_share 40 = .ok (.goto 7, 3) := by decide +kernel
theorem dX9_share_43 : decode cX9_share 43 = .ok (.lload_n 2, 1) := by decide +kernel
theorem dX9_share_44 : decode cX9_share 44 = .ok (.lload 5, 2) := by decide +kernel
theorem dX9_share_46 : decode cX9_share 46 = .ok (.ldiv, 1) := by decide +kernel
theorem dX9_share_47 : decode cX9_share 47 = .ok (.lreturn, 1) := by decide +kernel
set_option maxRecDepth 20000 in
theorem ggX9_isSheet_X9_within : GoodIn wsX9_isSheet wsX9_within := goodIn_r _ [4] (by decide +kernel) (by decide +kernel)
set_option maxRecDepth 20000 in
theorem gX9_isSheet_X9_within : GoodIn wsX9_isSheet (va_wsS RX9 75 yX9_within wsX9_within) := goodIn_app (goodIn_of _ (by decide +kernel)) ggX9_isSheet_X9_within
theorem dX9_isSheet_0 : decode cX9_isSheet 0 = .ok (.iload_n 0, 1) := by decide +kernel
theorem dX9_isSheet_1 : decode cX9_isSheet 1 = .ok (.iconst 0, 1) := by decide +kernel
theorem dX9_isSheet_2 : decode cX9_isSheet 2 = .ok (.iconst 3, 1) := by decide +kernel
theorem dX9_isSheet_3 : decode cX9_isSheet 3 = .ok (.invokestatic 75, 3) := by decide +kernel
theorem dX9_isSheet_6 : decode cX9_isSheet 6 = .ok (.ireturn, 1) := by decide +kernel
set_option maxRecDepth 20000 in
theorem ggX9_isSort_X9_within : GoodIn wsX9_isSort wsX9_within := goodIn_r _ [4] (by decide +kernel) (by decide +kernel)
set_option maxRecDepth 20000 in
theorem gX9_isSort_X9_within : GoodIn wsX9_isSort (va_wsS RX9 75 yX9_within wsX9_within) := goodIn_app (goodIn_of _ (by decide +kernel)) ggX9_isSort_X9_within
theorem dX9_isSort_0 : decode cX9_isSort 0 = .ok (.iload_n 0, 1) := by decide +kernel
theorem dX9_isSort_1 : decode cX9_isSort 1 = .ok (.iconst 0, 1) := by decide +kernel
theorem dX9_isSort_2 : decode cX9_isSort 2 = .ok (.iconst 2, 1) := by decide +kernel
theorem dX9_isSort_3 : decode cX9_isSort 3 = .ok (.invokestatic 75, 3) := by decide +kernel
theorem dX9_isSort_6 : decode cX9_isSort 6 = .ok (.ireturn, 1) := by decide +kernel
theorem dX9_against_0 : decode cX9_against 0 = .ok (.aload_n 0, 1) := by decide +kernel
theorem dX9_against_1 : decode cX9_against 1 = .ok (.getfield 9, 3) := by decide +kernel
theorem dX9_against_4 : decode cX9_against 4 = .ok (.iload_n 1, 1) := by decide +kernel
theorem dX9_against_5 : decode cX9_against 5 = .ok (.iaload, 1) := by decide +kernel
theorem dX9_against_6 : decode cX9_against 6 = .ok (.bipush (-9), 2) := by decide +kernel
theorem dX9_against_8 : decode cX9_against 8 = .ok (.if_icmp .eq 15, 3) := by decide +kernel
theorem dX9_against_11 : decode cX9_against 11 = .ok (.aload_n 0, 1) := by decide +kernel
theorem dX9_against_12 : decode cX9_against 12 = .ok (.getfield 9, 3) := by decide +kernel
theorem dX9_against_15 : decode cX9_against 15 = .ok (.iload_n 1, 1) := by decide +kernel
theorem dX9_against_16 : decode cX9_against 16 = .ok (.iaload, 1) := by decide +kernel
theorem dX9_against_17 : decode cX9_against 17 = .ok (.iload_n 2, 1) := by decide +kernel
theorem dX9_against_18 : decode cX9_against 18 = .ok (.if_icmp .eq 5, 3) := by decide +kernel
theorem dX9_against_21 : decode cX9_against 21 = .ok (.iconst 2, 1) := by decide +kernel
theorem dX9_against_22 : decode cX9_against 22 = .ok (.ireturn, 1) := by decide +kernel
theorem dX9_against_23 : decode cX9_against 23 = .ok (.aload_n 0, 1) := by decide +kernel
theorem dX9_against_24 : decode cX9_against 24 = .ok (.getfield 9, 3) := by decide +kernel
theorem dX9_against_27 : decode cX9_against 27 = .ok (.iload_n 1, 1) := by decide +kernel
theorem dX9_against_28 : decode cX9_against 28 = .ok (.iaload, 1) := by decide +kernel
theorem dX9_against_29 : decode cX9_against 29 = .ok (.bipush (-9), 2) := by decide +kernel
theorem dX9_against_31 : decode cX9_against 31 = .ok (.if_icmp .ne 5, 3) := by decide +kernel
theorem dX9_against_34 : decode cX9_against 34 = .ok (.iconst 1, 1) := by decide +kernel
theorem dX9_against_35 : decode cX9_against 35 = .ok (.ireturn, 1) := by decide +kernel
theorem dX9_against_36 : decode cX9_against 36 = .ok (.iload 4, 2) := by decide +kernel
theorem dX9_against_38 : decode cX9_against 38 = .ok (.ifCond .ge 5, 3) := by decide +kernel
theorem dX9_against_41 : decode cX9_against 41 = .ok (.iconst 4, 1) := by decide +kernel
theorem dX9_against_42 : decode cX9_against 42 = .ok (.ireturn, 1) := by decide +kernel
theorem dX9_against_43 : decode cX9_against 43 = .ok (.iload_n 3, 1) := by decide +kernel
theorem dX9_against_44 : decode cX9_against 44 = .ok (.ifCond .lt 26, 3) := by decide +kernel
theorem dX9_against_47 : decode cX9_against 47 = .ok (.iload_n 3, 1) := by decide +kernel
theorem dX9_against_48 : decode cX9_against 48 = .ok (.aload_n 0, 1) := by decide +kernel
theorem dX9_against_49 : decode cX9_against 49 = .ok (.getfield 13, 3) := by decide +kernel
theorem dX9_against_52 : decode cX9_against 52 = .ok (.iload_n 1, 1) := by decide +kernel
theorem dX9_against_53 : decode cX9_against 53 = .ok (.iaload, 1) := by decide +kernel
theorem dX9_against_54 : decode cX9_against 54 = .ok (.if_icmp .gt 16, 3) := by decide +kernel
theorem dX9_against_57 : decode cX9_against 57 = .ok (.iload 4, 2) := by decide +kernel
theorem dX9_against_59 : decode cX9_against 59 = .ok (.aload_n 0, 1) := by decide +kernel
theorem dX9_against_60 : decode cX9_against 60 = .ok (.getfield 13, 3) := by decide +kernel
theorem dX9_against_63 : decode cX9_against 63 = .ok (.iload_n 1, 1) := by decide +kernel
theorem dX9_against_64 : decode cX9_against 64 = .ok (.iaload, 1) := by decide +kernel
theorem dX9_against_65 : decode cX9_against 65 = .ok (.iload_n 3, 1) := by decide +kernel
theorem dX9_against_66 : decode cX9_against 66 = .ok (.isub, 1) := by decide +kernel
theorem dX9_against_67 : decode cX9_against 67 = .ok (.if_icmp .le 7, 3) := by decide +kernel
theorem dX9_against_70 : decode cX9_against 70 = .ok (.iconst 3, 1) := by decide +kernel
theorem dX9_against_71 : decode cX9_against 71 = .ok (.goto 4, 3) := by decide +kernel
theorem dX9_against_74 : decode cX9_against 74 = .ok (.iconst 0, 1) := by decide +kernel
theorem dX9_against_75 : decode cX9_against 75 = .ok (.ireturn, 1) := by decide +kernel
theorem dX9_all_0 : decode cX9_all 0 = .ok (.aload_n 0, 1) := by decide +kernel
theorem dX9_all_1 : decode cX9_all 1 = .ok (.getfield 79, 3) := by decide +kernel
theorem dX9_all_4 : decode cX9_all 4 = .ok (.aload_n 0, 1) := by decide +kernel
theorem dX9_all_5 : decode cX9_all 5 = .ok (.getfield 82, 3) := by decide +kernel
theorem dX9_all_8 : decode cX9_all 8 = .ok (.imul, 1) := by decide +kernel
theorem dX9_all_9 : decode cX9_all 9 = .ok (.ireturn, 1) := by decide +kernel
set_option maxRecDepth 20000 in
theorem ggX9_isCell_X9_all : GoodIn wsX9_isCell wsX9_all := goodIn_r _ [5, 6, 7, 8, 9, 10, 11, 12, 13, 14, 15, 16, 17, 18, 19, 20, 21, 22, 23, 24, 25, 26, 27, 28, 29, 30, 31, 32, 33, 34, 35, 36, 37, 38, 39] (by decide +kernel) (by decide +kernel)
set_option maxRecDepth 20000 in
theorem gX9_isCell_X9_all : GoodIn wsX9_isCell (wsV RX9 85 RX9 yX9_all wsX9_all) := goodIn_app (goodIn_of _ (by decide +kernel)) ggX9_isCell_X9_all
theorem dX9_isCell_0 : decode cX9_isCell 0 = .ok (.iload_n 1, 1) := by decide +kernel
theorem dX9_isCell_1 : decode cX9_isCell 1 = .ok (.ifCond .lt 15, 3) := by decide +kernel
theorem dX9_isCell_4 : decode cX9_isCell 4 = .ok (.iload_n 1, 1) := by decide +kernel
theorem dX9_isCell_5 : decode cX9_isCell 5 = .ok (.aload_n 0, 1) := by decide +kernel
theorem dX9_isCell_6 : decode cX9_isCell 6 = .ok (.invokevirtual 85, 3) := by decide +kernel
theorem dX9_isCell_9 : decode cX9_isCell 9 = .ok (.if_icmp .ge 7, 3) := by decide +kernel
theorem dX9_isCell_12 : decode cX9_isCell 12 = .ok (.iconst 1, 1) := by decide +kernel
theorem dX9_isCell_13 : decode cX9_isCell 13 = .ok (.goto 4, 3) := by decide +kernel
theorem dX9_isCell_16 : decode cX9_isCell 16 = .ok (.iconst 0, 1) := by decide +kernel
theorem dX9_isCell_17 : decode cX9_isCell 17 = .ok (.ireturn, 1) := by decide +kernel
set_option maxRecDepth 20000 in
theorem ggX9_digitAt_X9_within : GoodIn wsX9_digitAt wsX9_within := goodIn_r _ [5] (by decide +kernel) (by decide +kernel)
set_option maxRecDepth 20000 in
theorem gX9_digitAt_X9_within : GoodIn wsX9_digitAt (va_wsS RX9 75 yX9_within wsX9_within) := goodIn_app (goodIn_of _ (by decide +kernel)) ggX9_digitAt_X9_within
theorem dX9_digitAt_0 : decode cX9_digitAt 0 = .ok (.iload_n 1, 1) := by decide +kernel
theorem dX9_digitAt_1 : decode cX9_digitAt 1 = .ok (.iload_n 2, 1) := by decide +kernel
theorem dX9_digitAt_2 : decode cX9_digitAt 2 = .ok (.if_icmp .ge 31, 3) := by decide +kernel
theorem dX9_digitAt_5 : decode cX9_digitAt 5 = .ok (.aload_n 0, 1) := by decide +kernel
theorem dX9_digitAt_6 : decode cX9_digitAt 6 = .ok (.getfield 16, 3) := by decide +kernel
theorem dX9_digitAt_9 : decode cX9_digitAt 9 = .ok (.iload_n 1, 1) := by decide +kernel
theorem dX9_digitAt_10 : decode cX9_digitAt 10 = .ok (.iaload, 1) := by decide +kernel
theorem dX9_digitAt_11 : decode cX9_digitAt 11 = .ok (.bipush 48, 2) := by decide +kernel
theorem dX9_digitAt_13 : decode cX9_digitAt 13 = .ok (.bipush 57, 2) := by decide +kernel
theorem dX9_digitAt_15 : decode cX9_digitAt 15 = .ok (.invokestatic 75, 3) := by decide +kernel
theorem dX9_digitAt_18 : decode cX9_digitAt 18 = .ok (.ifCond .eq 15, 3) := by decide +kernel
theorem dX9_digitAt_21 : decode cX9_digitAt 21 = .ok (.aload_n 0, 1) := by decide +kernel
theorem dX9_digitAt_22 : decode cX9_digitAt 22 = .ok (.getfield 16, 3) := by decide +kernel
theorem dX9_digitAt_25 : decode cX9_digitAt 25 = .ok (.iload_n 1, 1) := by decide +kernel
theorem dX9_digitAt_26 : decode cX9_digitAt 26 = .ok (.iaload, 1) := by decide +kernel
theorem dX9_digitAt_27 : decode cX9_digitAt 27 = .ok (.bipush 48, 2) := by decide +kernel
theorem dX9_digitAt_29 : decode cX9_digitAt 29 = .ok (.isub, 1) := by decide +kernel
theorem dX9_digitAt_30 : decode cX9_digitAt 30 = .ok (.goto 5, 3) := by decide +kernel
theorem dX9_digitAt_33 : decode cX9_digitAt 33 = .ok (.bipush (-9), 2) := by decide +kernel
theorem dX9_digitAt_35 : decode cX9_digitAt 35 = .ok (.ireturn, 1) := by decide +kernel
theorem dX9_isCode_0 : decode cX9_isCode 0 = .ok (.aload_n 0, 1) := by decide +kernel
theorem dX9_isCode_1 : decode cX9_isCode 1 = .ok (.getfield 89, 3) := by decide +kernel
theorem dX9_isCode_4 : decode cX9_isCode 4 = .ok (.iload_n 2, 1) := by decide +kernel
theorem dX9_isCode_5 : decode cX9_isCode 5 = .ok (.if_icmp .ge 20, 3) := by decide +kernel
theorem dX9_isCode_8 : decode cX9_isCode 8 = .ok (.aload_n 0, 1) := by decide +kernel
theorem dX9_isCode_9 : decode cX9_isCode 9 = .ok (.getfield 16, 3) := by decide +kernel
theorem dX9_isCode_12 : decode cX9_isCode 12 = .ok (.aload_n 0, 1) := by decide +kernel
theorem dX9_isCode_13 : decode cX9_isCode 13 = .ok (.getfield 89, 3) := by decide +kernel
theorem dX9_isCode_16 : decode cX9_isCode 16 = .ok (.iaload, 1) := by decide +kernel
theorem dX9_isCode_17 : decode cX9_isCode 17 = .ok (.iload_n 1, 1) := by decide +kernel
theorem dX9_isCode_18 : decode cX9_isCode 18 = .ok (.if_icmp .ne 7, 3) := by decide +kernel
theorem dX9_isCode_21 : decode cX9_isCode 21 = .ok (.iconst 1, 1) := by decide +kernel
theorem dX9_isCode_22 : decode cX9_isCode 22 = .ok (.goto 4, 3) := by decide +kernel
theorem dX9_isCode_25 : decode cX9_isCode 25 = .ok (.iconst 0, 1) := by decide +kernel
theorem dX9_isCode_26 : decode cX9_isCode 26 = .ok (.ireturn, 1) := by decide +kernel
set_option maxRecDepth 20000 in
theorem ggX9_land_X9_isSheet : GoodIn wsX9_land wsX9_isSheet := goodIn_r _ [16, 17, 18, 15, 19] (by decide +kernel) (by decide +kernel)
set_option maxRecDepth 20000 in
theorem gX9_land_X9_isSheet : GoodIn wsX9_land (va_wsS RX9 92 yX9_isSheet wsX9_isSheet) := goodIn_app (goodIn_of _ (by decide +kernel)) ggX9_land_X9_isSheet
set_option maxRecDepth 20000 in
theorem ggX9_land_X9_isSort : GoodIn wsX9_land wsX9_isSort := goodIn_r _ [22, 17, 18, 15, 19] (by decide +kernel) (by decide +kernel)
set_option maxRecDepth 20000 in
theorem gX9_land_X9_isSort : GoodIn wsX9_land (va_wsS RX9 96 yX9_isSort wsX9_isSort) := goodIn_app (goodIn_of _ (by decide +kernel)) ggX9_land_X9_isSort
set_option maxRecDepth 20000 in
theorem ggX9_land_X9_against : GoodIn wsX9_land wsX9_against := goodIn_r _ [26, 27, 28, 50, 51, 52, 53, 54, 55, 56, 57, 58, 59, 60, 61, 62, 63, 64, 65, 66, 67, 68, 69, 70, 71, 72, 73, 74, 75, 76, 77, 78, 79, 80, 81] (by decide +kernel) (by decide +kernel)
set_option maxRecDepth 20000 in
theorem gX9_land_X9_against : GoodIn wsX9_land (wsV RX9 99 RX9 yX9_against wsX9_against) := goodIn_app (goodIn_of _ (by decide +kernel)) ggX9_land_X9_against
set_option maxRecDepth 20000 in
theorem ggX9_land_X9_fails : GoodIn wsX9_land wsX9_fails := goodIn_r _ [32, 1, 50, 51, 52, 53, 54, 55, 56, 57, 58, 59, 60, 61, 62, 63, 64, 65, 66, 67, 68, 69, 70, 71, 72, 73, 74, 75, 76, 77, 78, 79, 80, 81] (by decide +kernel) (by decide +kernel)
set_option maxRecDepth 20000 in
theorem gX9_land_X9_fails : GoodIn wsX9_land (wsV RX9 103 RX9 yX9_fails wsX9_fails) := goodIn_app (goodIn_of _ (by decide +kernel)) ggX9_land_X9_fails
set_option maxRecDepth 20000 in
theorem ggX9_land_X9_readLand : GoodIn wsX9_land wsX9_readLand := goodIn_r _ [36, 2, 3, 5, 8, 37, 38, 39, 15, 40, 41, 42, 43, 44, 45, 17, 18, 19, 50, 51, 52, 53, 54, 55, 56, 57, 58, 59, 60, 61, 62, 63, 64, 65, 66, 67, 68, 69, 70, 71, 72, 73, 74, 75, 76, 77, 78, 79, 80, 81] (by decide +kernel) (by decide +kernel)
set_option maxRecDepth 20000 in
theorem gX9_land_X9_readLand : GoodIn wsX9_land (wsV RX9 107 RX9 yX9_readLand wsX9_readLand) := goodIn_app (goodIn_of _ (by decide +kernel)) ggX9_land_X9_readLand
set_option maxRecDepth 20000 in
theorem ggX9_land_X9_all : GoodIn wsX9_land wsX9_all := goodIn_r _ [49, 4, 6, 50, 51, 52, 53, 54, 55, 56, 57, 58, 59, 60, 61, 62, 63, 64, 65, 66, 67, 68, 69, 70, 71, 72, 73, 74, 75, 76, 77, 78, 79, 80, 81] (by decide +kernel) (by decide +kernel)
set_option maxRecDepth 20000 in
theorem gX9_land_X9_all : GoodIn wsX9_land (wsV RX9 85 RX9 yX9_all wsX9_all) := goodIn_app (goodIn_of _ (by decide +kernel)) ggX9_land_X9_all
theorem dX9_land_0 : decode cX9_land 0 = .ok (.aload_n 0, 1) := by decide +kernel
theorem dX9_land_1 : decode cX9_land 1 = .ok (.iconst 0, 1) := by decide +kernel
theorem dX9_land_2 : decode cX9_land 2 = .ok (.putfield 69, 3) := by decide +kernel
theorem dX9_land_5 : decode cX9_land 5 = .ok (.iload_n 1, 1) := by decide +kernel
theorem dX9_land_6 : decode cX9_land 6 = .ok (.invokestatic 92, 3) := by decide +kernel
theorem dX9_land_9 : decode cX9_land 9 = .ok (.ifCond .ne 5, 3) := by decide +kernel
theorem dX9_land_12 : decode cX9_land 12 = .ok (.iconst (-1), 1) := by decide +kernel
theorem dX9_land_13 : decode cX9_land 13 = .ok (.ireturn, 1) := by decide +kernel
theorem dX9_land_14 : decode cX9_land 14 = .ok (.iload_n 2, 1) := by decide +kernel
theorem dX9_land_15 : decode cX9_land 15 = .ok (.invokestatic 96, 3) := by decide +kernel
theorem dX9_land_18 : decode cX9_land 18 = .ok (.ifCond .ne 6, 3) := by decide +kernel
theorem dX9_land_21 : decode cX9_land 21 = .ok (.bipush (-2), 2) := by decide +kernel
theorem dX9_land_23 : decode cX9_land 23 = .ok (.ireturn, 1) := by decide +kernel
theorem dX9_land_24 : decode cX9_land 24 = .ok (.aload_n 0, 1) := by decide +kernel
theorem dX9_land_25 : decode cX9_land 25 = .ok (.iload_n 1, 1) := by decide +kernel
theorem dX9_land_26 : decode cX9_land 26 = .ok (.iload_n 2, 1) := by decide +kernel
theorem dX9_land_27 : decode cX9_land 27 = .ok (.iload_n 3, 1) := by decide +kernel
theorem dX9_land_28 : decode cX9_land 28 = .ok (.iload 4, 2) := by decide +kernel
theorem dX9_land_30 : decode cX9_land 30 = .ok (.invokevirtual 99, 3) := by decide +kernel
theorem dX9_land_33 : decode cX9_land 33 = .ok (.istore 5, 2) := by decide +kernel
theorem dX9_land_35 : decode cX9_land 35 = .ok (.iload 5, 2) := by decide +kernel
theorem dX9_land_37 : decode cX9_land 37 = .ok (.ifCond .eq 10, 3) := by decide +kernel
theorem dX9_land_40 : decode cX9_land 40 = .ok (.aload_n 0, 1) := by decide +kernel
theorem dX9_land_41 : decode cX9_land 41 = .ok (.iload 5, 2) := by decide +kernel
theorem dX9_land_43 : decode cX9_land 43 = .ok (.invokevirtual 103, 3) := by decide +kernel
theorem dX9_land_46 : decode cX9_land 46 = .ok (.ireturn, 1) := by decide +kernel
theorem dX9_land_47 : decode cX9_land 47 = .ok (.bipush 60, 2) := by decide +kernel
theorem dX9_land_49 : decode cX9_land 49 = .ok (.iload_n 1, 1) := by decide +kernel
theorem dX9_land_50 : decode cX9_land 50 = .ok (.imul, 1) := by decide +kernel
theorem dX9_land_51 : decode cX9_land 51 = .ok (.iload_n 3, 1) := by decide +kernel
theorem dX9_land_52 : decode cX9_land 52 = .ok (.iadd, 1) := by decide +kernel
theorem dX9_land_53 : decode cX9_land 53 = .ok (.istore 6, 2) := by decide +kernel
theorem dX9_land_55 : decode cX9_land 55 = .ok (.aload_n 0, 1) := by decide +kernel
theorem dX9_land_56 : decode cX9_land 56 = .ok (.iload 6, 2) := by decide +kernel
theorem dX9_land_58 : decode cX9_land 58 = .ok (.putfield 89, 3) := by decide +kernel
theorem dX9_land_61 : decode cX9_land 61 = .ok (.aload_n 0, 1) := by decide +kernel
theorem dX9_land_62 : decode cX9_land 62 = .ok (.iload 6, 2) := by decide +kernel
theorem dX9_land_64 : decode cX9_land 64 = .ok (.iload 4, 2) := by decide +kernel
theorem dX9_land_66 : decode cX9_land 66 = .ok (.iadd, 1) := by decide +kernel
theorem dX9_land_67 : decode cX9_land 67 = .ok (.invokevirtual 107, 3) := by decide +kernel
theorem dX9_land_70 : decode cX9_land 70 = .ok (.ifCond .ne 14, 3) := by decide +kernel
theorem dX9_land_73 : decode cX9_land 73 = .ok (.bipush (-100), 2) := by decide +kernel
theorem dX9_land_75 : decode cX9_land 75 = .ok (.aload_n 0, 1) := by decide +kernel
theorem dX9_land_76 : decode cX9_land 76 = .ok (.getfield 89, 3) := by decide +kernel
theorem dX9_land_79 : decode cX9_land 79 = .ok (.iload 6, 2) := by decide +kernel
theorem dX9_land_81 : decode cX9_land 81 = .ok (.isub, 1) := by decide +kernel
theorem dX9_land_82 : decode cX9_land 82 = .ok (.isub, 1) := by decide +kernel
theorem dX9_land_83 : decode cX9_land 83 = .ok (.ireturn, 1) := by decide +kernel
theorem dX9_land_84 : decode cX9_land 84 = .ok (.aload_n 0, 1) := by decide +kernel
theorem dX9_land_85 : decode cX9_land 85 = .ok (.aload_n 0, 1) := by decide +kernel
theorem dX9_land_86 : decode cX9_land 86 = .ok (.getfield 110, 3) := by decide +kernel
theorem dX9_land_89 : decode cX9_land 89 = .ok (.putfield 79, 3) := by decide +kernel
theorem dX9_land_92 : decode cX9_land 92 = .ok (.aload_n 0, 1) := by decide +kernel
theorem dX9_land_93 : decode cX9_land 93 = .ok (.aload_n 0, 1) := by decide +kernel
theorem dX9_land_94 : decode cX9_land 94 = .ok (.getfield 113, 3) := by decide +kernel
theorem dX9_land_97 : decode cX9_land 97 = .ok (.putfield 82, 3) := by decide +kernel
theorem dX9_land_100 : decode cX9_land 100 = .ok (.iconst 0, 1) := by decide +kernel
theorem dX9_land_101 : decode cX9_land 101 = .ok (.istore 7, 2) := by decide +kernel
theorem dX9_land_103 : decode cX9_land 103 = .ok (.iload 7, 2) := by decide +kernel
theorem dX9_land_105 : decode cX9_land 105 = .ok (.aload_n 0, 1) := by decide +kernel
theorem dX9_land_106 : decode cX9_land 106 = .ok (.invokevirtual 85, 3) := by decide +kernel
theorem dX9_land_109 : decode cX9_land 109 = .ok (.if_icmp .ge 31, 3) := by decide +kernel
theorem dX9_land_112 : decode cX9_land 112 = .ok (.aload_n 0, 1) := by decide +kernel
theorem dX9_land_113 : decode cX9_land 113 = .ok (.getfield 19, 3) := by decide +kernel
theorem dX9_land_116 : decode cX9_land 116 = .ok (.iload 7, 2) := by decide +kernel
theorem dX9_land_118 : decode cX9_land 118 = .ok (.aload_n 0, 1) := by decide +kernel
theorem dX9_land_119 : decode cX9_land 119 = .ok (.getfield 26, 3) := by decide +kernel
theorem dX9_land_122 : decode cX9_land 122 = .ok (.iload 7, 2) := by decide +kernel
theorem dX9_land_124 : decode cX9_land 124 = .ok (.iaload, 1) := by decide +kernel
theorem dX9_land_125 : decode cX9_land 125 = .ok (.iastore, 1) := by decide +kernel
theorem dX9_land_126 : decode cX9_land 126 = .ok (.aload_n 0, 1) := by decide +kernel
theorem dX9_land_127 : decode cX9_land 127 = .ok (.getfield 22, 3) := by decide +kernel
theorem dX9_land_130 : decode cX9_land 130 = .ok (.iload 7, 2) := by decide +kernel
theorem dX9_land_132 : decode cX9_land 132 = .ok (.iconst 0, 1) := by decide +kernel
theorem dX9_land_133 : decode cX9_land 133 = .ok (.bastore, 1) := by decide +kernel
theorem dX9_land_134 : decode cX9_land 134 = .ok (.iinc 7 1, 3) := by decide +kernel
theorem dX9_land_137 : decode cX9_land 137 = .ok (.goto (-34), 3) := by decide +kernel
theorem dX9_land_140 : decode cX9_land 140 = .ok (.aload_n 0, 1) := by decide +kernel
theorem dX9_land_141 : decode cX9_land 141 = .ok (.iconst 0, 1) := by decide +kernel
theorem dX9_land_142 : decode cX9_land 142 = .ok (.putfield 116, 3) := by decide +kernel
theorem dX9_land_145 : decode cX9_land 145 = .ok (.aload_n 0, 1) := by decide +kernel
theorem dX9_land_146 : decode cX9_land 146 = .ok (.iconst 0, 1) := by decide +kernel
theorem dX9_land_147 : decode cX9_land 147 = .ok (.putfield 119, 3) := by decide +kernel
theorem dX9_land_150 : decode cX9_land 150 = .ok (.aload_n 0, 1) := by decide +kernel
theorem dX9_land_151 : decode cX9_land 151 = .ok (.bipush 10, 2) := by decide +kernel
theorem dX9_land_153 : decode cX9_land 153 = .ok (.putfield 122, 3) := by decide +kernel
theorem dX9_land_156 : decode cX9_land 156 = .ok (.aload_n 0, 1) := by decide +kernel
theorem dX9_land_157 : decode cX9_land 157 = .ok (.invokevirtual 85, 3) := by decide +kernel
theorem dX9_land_160 : decode cX9_land 160 = .ok (.ireturn, 1) := by decide +kernel
set_option maxRecDepth 20000 in
theorem ggX9_readLand_X9_isCode : GoodIn wsX9_readLand wsX9_isCode := goodIn_r _ [9, 1, 10, 18, 19, 20, 21, 22, 23, 24, 25, 26, 27, 28, 29, 30, 31, 32, 33, 34, 35, 36, 37, 38, 39, 40, 41, 42, 43, 44, 45, 46, 47, 48, 49] (by decide +kernel) (by decide +kernel)
set_option maxRecDepth 20000 in
theorem gX9_readLand_X9_isCode : GoodIn wsX9_readLand (wsV RX9 125 RX9 yX9_isCode wsX9_isCode) := goodIn_app (goodIn_of _ (by decide +kernel)) ggX9_readLand_X9_isCode
set_option maxRecDepth 20000 in
theorem ggX9_readLand_X9_digitAt : GoodIn wsX9_readLand wsX9_digitAt := goodIn_r _ [14, 10, 15, 16, 8, 17, 18, 19, 20, 21, 22, 23, 24, 25, 26, 27, 28, 29, 30, 31, 32, 33, 34, 35, 36, 37, 38, 39, 40, 41, 42, 43, 44, 45, 46, 47, 48, 49] (by decide +kernel) (by decide +kernel)
set_option maxRecDepth 20000 in
theorem gX9_readLand_X9_digitAt : GoodIn wsX9_readLand (wsV RX9 129 RX9 yX9_digitAt wsX9_digitAt) := goodIn_app (goodIn_of _ (by decide +kernel)) ggX9_readLand_X9_digitAt
set_option maxRecDepth 20000 in
theorem ggX9_readLand_X9_within : GoodIn wsX9_readLand wsX9_within := goodIn_r _ [17] (by decide +kernel) (by decide +kernel)
set_option maxRecDepth 20000 in
theorem gX9_readLand_X9_within : GoodIn wsX9_readLand (va_wsS RX9 75 yX9_within wsX9_within) := goodIn_app (goodIn_of _ (by decide +kernel)) ggX9_readLand_X9_within
theorem dX9_readLand_0 : decode cX9_readLand 0 = .ok (.aload_n 0, 1) := by decide +kernel
theorem dX9_readLand_1 : decode cX9_readLand 1 = .ok (.bipush 103, 2) := by decide +kernel
theorem dX9_readLand_3 : decode cX9_readLand 3 = .ok (.iload_n 1, 1) := by decide +kernel
theorem dX9_readLand_4 : decode cX9_readLand 4 = .ok (.invokevirtual 125, 3) := by decide +kernel
theorem dX9_readLand_7 : decode cX9_readLand 7 = .ok (.ifCond .ne 5, 3) := by decide +kernel
theorem dX9_readLand_10 : decode cX9_readLand 10 = .ok (.iconst 0, 1) := by decide +kernel
theorem dX9_readLand_11 : decode cX9_readLand 11 = .ok (.ireturn, 1) := by decide +kernel
theorem dX9_readLand_12 : decode cX9_readLand 12 = .ok (.aload_n 0, 1) := by decide +kernel
theorem dX9_readLand_13 : decode cX9_readLand 13 = .ok (.dup, 1) := by decide +kernel
theorem dX9_readLand_14 : decode cX9_readLand 14 = .ok (.getfield 89, 3) := by decide +kernel
theorem dX9_readLand_17 : decode cX9_readLand 17 = .ok (.iconst 1, 1) := by decide +kernel
theorem dX9_readLand_18 : decode cX9_readLand 18 = .ok (.iadd, 1) := by decide +kernel
theorem dX9_readLand_19 : decode cX9_readLand 19 = .ok (.putfield 89, 3) := by decide +kernel
theorem dX9_readLand_22 : decode cX9_readLand 22 = .ok (.aload_n 0, 1) := by decide +kernel
theorem dX9_readLand_23 : decode cX9_readLand 23 = .ok (.aload_n 0, 1) := by decide +kernel
theorem dX9_readLand_24 : decode cX9_readLand 24 = .ok (.aload_n 0, 1) := by decide +kernel
theorem dX9_readLand_25 : decode cX9_readLand 25 = .ok (.getfield 89, 3) := by decide +kernel
theorem dX9_readLand_28 : decode cX9_readLand 28 = .ok (.iload_n 1, 1) := by decide +kernel
theorem dX9_readLand_29 : decode cX9_readLand 29 = .ok (.invokevirtual 129, 3) := by decide +kernel
theorem dX9_readLand_32 : decode cX9_readLand 32 = .ok (.putfield 110, 3) := by decide +kernel
theorem dX9_readLand_35 : decode cX9_readLand 35 = .ok (.aload_n 0, 1) := by decide +kernel
theorem dX9_readLand_36 : decode cX9_readLand 36 = .ok (.getfield 110, 3) := by decide +kernel
theorem dX9_readLand_39 : decode cX9_readLand 39 = .ok (.iconst 2, 1) := by decide +kernel
theorem dX9_readLand_40 : decode cX9_readLand 40 = .ok (.iconst 5, 1) := by decide +kernel
theorem dX9_readLand_41 : decode cX9_readLand 41 = .ok (.invokestatic 75, 3) := by decide +kernel
theorem dX9_readLand_44 : decode cX9_readLand 44 = .ok (.ifCond .ne 5, 3) := by decide +kernel
theorem dX9_readLand_47 : decode cX9_readLand 47 = .ok (.iconst 0, 1) := by decide +kernel
theorem dX9_readLand_48 : decode cX9_readLand 48 = .ok (.ireturn, 1) := by decide +kernel
theorem dX9_readLand_49 : decode cX9_readLand 49 = .ok (.aload_n 0, 1) := by decide +kernel
theorem dX9_readLand_50 : decode cX9_readLand 50 = .ok (.dup, 1) := by decide +kernel
theorem dX9_readLand_51 : decode cX9_readLand 51 = .ok (.getfield 89, 3) := by decide +kernel
theorem dX9_readLand_54 : decode cX9_readLand 54 = .ok (.iconst 1, 1) := by decide +kernel
theorem dX9_readLand_55 : decode cX9_readLand 55 = .ok (.iadd, 1) := by decide +kernel
theorem dX9_readLand_56 : decode cX9_readLand 56 = .ok (.putfield 89, 3) := by decide +kernel
theorem dX9_readLand_59 : decode cX9_readLand 59 = .ok (.aload_n 0, 1) := by decide +kernel
theorem dX9_readLand_60 : decode cX9_readLand 60 = .ok (.aload_n 0, 1) := by decide +kernel
theorem dX9_readLand_61 : decode cX9_readLand 61 = .ok (.aload_n 0, 1) := by decide +kernel
theorem dX9_readLand_62 : decode cX9_readLand 62 = .ok (.getfield 89, 3) := by decide +kernel
theorem dX9_readLand_65 : decode cX9_readLand 65 = .ok (.iload_n 1, 1) := by decide +kernel
theorem dX9_readLand_66 : decode cX9_readLand 66 = .ok (.invokevirtual 129, 3) := by decide +kernel
theorem dX9_readLand_69 : decode cX9_readLand 69 = .ok (.putfield 113, 3) := by decide +kernel
theorem dX9_readLand_72 : decode cX9_readLand 72 = .ok (.aload_n 0, 1) := by decide +kernel
theorem dX9_readLand_73 : decode cX9_readLand 73 = .ok (.getfield 113, 3) := by decide +kernel
theorem dX9_readLand_76 : decode cX9_readLand 76 = .ok (.iconst 2, 1) := by decide +kernel
theorem dX9_readLand_77 : decode cX9_readLand 77 = .ok (.bipush 6, 2) := by decide +kernel
theorem dX9_readLand_79 : decode cX9_readLand 79 = .ok (.invokestatic 75, 3) := by decide +kernel
theorem dX9_readLand_82 : decode cX9_readLand 82 = .ok (.ifCond .ne 5, 3) := by decide +kernel
theorem dX9_readLand_85 : decode cX9_readLand 85 = .ok (.iconst 0, 1) := by decide +kernel
theorem dX9_readLand_86 : decode cX9_readLand 86 = .ok (.ireturn, 1) := by decide +kernel
theorem dX9_readLand_87 : decode cX9_readLand 87 = .ok (.aload_n 0, 1) := by decide +kernel
theorem dX9_readLand_88 : decode cX9_readLand 88 = .ok (.dup, 1) := by decide +kernel
theorem dX9_readLand_89 : decode cX9_readLand 89 = .ok (.getfield 89, 3) := by decide +kernel
theorem dX9_readLand_92 : decode cX9_readLand 92 = .ok (.iconst 1, 1) := by decide +kernel
theorem dX9_readLand_93 : decode cX9_readLand 93 = .ok (.iadd, 1) := by decide +kernel
theorem dX9_readLand_94 : decode cX9_readLand 94 = .ok (.putfield 89, 3) := by decide +kernel
theorem dX9_readLand_97 : decode cX9_readLand 97 = .ok (.iconst 0, 1) := by decide +kernel
theorem dX9_readLand_98 : decode cX9_readLand 98 = .ok (.istore_n 2, 1) := by decide +kernel
theorem dX9_readLand_99 : decode cX9_readLand 99 = .ok (.iload_n 2, 1) := by decide +kernel
theorem dX9_readLand_100 : decode cX9_readLand 100 = .ok (.aload_n 0, 1) := by decide +kernel
theorem dX9_readLand_101 : decode cX9_readLand 101 = .ok (.getfield 110, 3) := by decide +kernel
theorem dX9_readLand_104 : decode cX9_readLand 104 = .ok (.if_icmp .ge 92, 3) := by decide +kernel
theorem dX9_readLand_107 : decode cX9_readLand 107 = .ok (.aload_n 0, 1) := by decide +kernel
theorem dX9_readLand_108 : decode cX9_readLand 108 = .ok (.bipush 59, 2) := by decide +kernel
theorem dX9_readLand_110 : decode cX9_readLand 110 = .ok (.iload_n 1, 1) := by decide +kernel
theorem dX9_readLand_111 : decode cX9_readLand 111 = .ok (.invokevirtual 125, 3) := by decide +kernel
theorem dX9_readLand_114 : decode cX9_readLand 114 = .ok (.ifCond .ne 5, 3) := by decide +kernel
theorem dX9_readLand_117 : decode cX9_readLand 117 = .ok (.iconst 0, 1) := by decide +kernel
theorem dX9_readLand_118 : decode cX9_readLand 118 = .ok (.ireturn, 1) := by decide +kernel
theorem dX9_readLand_119 : decode cX9_readLand 119 = .ok (.aload_n 0, 1) := by decide +kernel
theorem dX9_readLand_120 : decode cX9_readLand 120 = .ok (.dup, 1) := by decide +kernel
theorem dX9_readLand_121 : decode cX9_readLand 121 = .ok (.getfield 89, 3) := by decide +kernel
theorem dX9_readLand_124 : decode cX9_readLand 124 = .ok (.iconst 1, 1) := by decide +kernel
theorem dX9_readLand_125 : decode cX9_readLand 125 = .ok (.iadd, 1) := by decide +kernel
theorem dX9_readLand_126 : decode cX9_readLand 126 = .ok (.putfield 89, 3) := by decide +kernel
theorem dX9_readLand_129 : decode cX9_readLand 129 = .ok (.iconst 0, 1) := by decide +kernel
theorem dX9_readLand_130 : decode cX9_readLand 130 = .ok (.istore_n 3, 1) := by decide +kernel
theorem dX9_readLand_131 : decode cX9_readLand 131 = .ok (.iload_n 3, 1) := by decide +kernel
theorem dX9_readLand_132 : decode cX9_readLand 132 = .ok (.aload_n 0, 1) := by decide +kernel
theorem dX9_readLand_133 : decode cX9_readLand 133 = .ok (.getfield 113, 3) := by decide +kernel
theorem dX9_readLand_136 : decode cX9_readLand 136 = .ok (.if_icmp .ge 54, 3) := by decide +kernel
theorem dX9_readLand_139 : decode cX9_readLand 139 = .ok (.aload_n 0, 1) := by decide +kernel
theorem dX9_readLand_140 : decode cX9_readLand 140 = .ok (.aload_n 0, 1) := by decide +kernel
theorem dX9_readLand_141 : decode cX9_readLand 141 = .ok (.getfield 89, 3) := by decide +kernel
theorem dX9_readLand_144 : decode cX9_readLand 144 = .ok (.iload_n 1, 1) := by decide +kernel
theorem dX9_readLand_145 : decode cX9_readLand 145 = .ok (.invokevirtual 129, 3) := by decide +kernel
theorem dX9_readLand_148 : decode cX9_readLand 148 = .ok (.istore 4, 2) := by decide +kernel
theorem dX9_readLand_150 : decode cX9_readLand 150 = .ok (.iload 4, 2) := by decide +kernel
theorem dX9_readLand_152 : decode cX9_readLand 152 = .ok (.bipush (-9), 2) := by decide +kernel
theorem dX9_readLand_154 : decode cX9_readLand 154 = .ok (.if_icmp .ne 5, 3) := by decide +kernel
theorem dX9_readLand_157 : decode cX9_readLand 157 = .ok (.iconst 0, 1) := by decide +kernel
theorem dX9_readLand_158 : decode cX9_readLand 158 = .ok (.ireturn, 1) := by decide +kernel
theorem dX9_readLand_159 : decode cX9_readLand 159 = .ok (.aload_n 0, 1) := by decide +kernel
theorem dX9_readLand_160 : decode cX9_readLand 160 = .ok (.getfield 26, 3) := by decide +kernel
theorem dX9_readLand_163 : decode cX9_readLand 163 = .ok (.aload_n 0, 1) := by decide +kernel
theorem dX9_readLand_164 : decode cX9_readLand 164 = .ok (.getfield 113, 3) := by decide +kernel
theorem dX9_readLand_167 : decode cX9_readLand 167 = .ok (.iload_n 2, 1) := by decide +kernel
theorem dX9_readLand_168 : decode cX9_readLand 168 = .ok (.imul, 1) := by decide +kernel
theorem dX9_readLand_169 : decode cX9_readLand 169 = .ok (.iload_n 3, 1) := by decide +kernel
theorem dX9_readLand_170 : decode cX9_readLand 170 = .ok (.iadd, 1) := by decide +kernel
theorem dX9_readLand_171 : decode cX9_readLand 171 = .ok (.iload 4, 2) := by decide +kernel
theorem dX9_readLand_173 : decode cX9_readLand 173 = .ok (.iastore, 1) := by decide +kernel
theorem dX9_readLand_174 : decode cX9_readLand 174 = .ok (.aload_n 0, 1) := by decide +kernel
theorem dX9_readLand_175 : decode cX9_readLand 175 = .ok (.dup, 1) := by decide +kernel
theorem dX9_readLand_176 : decode cX9_readLand 176 = .ok (.getfield 89, 3) := by decide +kernel
theorem dX9_readLand_179 : decode cX9_readLand 179 = .ok (.iconst 1, 1) := by decide +kernel
theorem dX9_readLand_180 : decode cX9_readLand 180 = .ok (.iadd, 1) := by decide +kernel
theorem dX9_readLand_181 : decode cX9_readLand 181 = .ok (.putfield 89, 3) := by decide +kernel
theorem dX9_readLand_184 : decode cX9_readLand 184 = .ok (.iinc 3 1, 3) := by decide +kernel
theorem dX9_readLand_187 : decode cX9_readLand 187 = .ok (.goto (-56), 3) := by decide +kernel
theorem dX9_readLand_190 : decode cX9_readLand 190 = .ok (.iinc 2 1, 3) := by decide +kernel
theorem dX9_readLand_193 : decode cX9_readLand 193 = .ok (.goto (-94), 3) := by decide +kernel
theorem dX9_readLand_196 : decode cX9_readLand 196 = .ok (.aload_n 0, 1) := by decide +kernel
theorem dX9_readLand_197 : decode cX9_readLand 197 = .ok (.getfield 89, 3) := by decide +kernel
theorem dX9_readLand_200 : decode cX9_readLand 200 = .ok (.iload_n 1, 1) := by decide +kernel
theorem dX9_readLand_201 : decode cX9_readLand 201 = .ok (.if_icmp .ne 7, 3) := by decide +kernel
theorem dX9_readLand_204 : decode cX9_readLand 204 = .ok (.iconst 1, 1) := by decide +kernel
theorem dX9_readLand_205 : decode cX9_readLand 205 = .ok (.goto 4, 3) := by decide +kernel
theorem dX9_readLand_208 : decode cX9_readLand 208 = .ok (.iconst 0, 1) := by decide +kernel
theorem dX9_readLand_209 : decode cX9_readLand 209 = .ok (.ireturn, 1) := by decide +kernel
theorem dX9_tithe_0 : decode cX9_tithe 0 = .ok (.bipush 10, 2) := by decide +kernel
theorem dX9_tithe_2 : decode cX9_tithe 2 = .ok (.aload_n 0, 1) := by decide +kernel
theorem dX9_tithe_3 : decode cX9_tithe 3 = .ok (.getfield 19, 3) := by decide +kernel
theorem dX9_tithe_6 : decode cX9_tithe 6 = .ok (.iload_n 1, 1) := by decide +kernel
theorem dX9_tithe_7 : decode cX9_tithe 7 = .ok (.iaload, 1) := by decide +kernel
theorem dX9_tithe_8 : decode cX9_tithe 8 = .ok (.isub, 1) := by decide +kernel
theorem dX9_tithe_9 : decode cX9_tithe 9 = .ok (.ireturn, 1) := by decide +kernel
set_option maxRecDepth 20000 in
theorem ggX9_ofCell_X9_isCell : GoodIn wsX9_ofCell wsX9_isCell := goodIn_r _ [7, 8, 9, 10, 6, 11, 12, 13, 24, 25, 26, 27, 28, 29, 30, 31, 32, 33, 34, 35, 36, 37, 38, 39, 40, 41, 42, 43, 44, 45, 46, 47, 48, 49, 50, 51, 52, 53, 54, 55] (by decide +kernel) (by decide +kernel)
set_option maxRecDepth 20000 in
theorem gX9_ofCell_X9_isCell : GoodIn wsX9_ofCell (wsV RX9 133 RX9 yX9_isCell wsX9_isCell) := goodIn_app (goodIn_of _ (by decide +kernel)) ggX9_ofCell_X9_isCell
set_option maxRecDepth 20000 in
theorem ggX9_ofCell_X9_tithe : GoodIn wsX9_ofCell wsX9_tithe := goodIn_r _ [17, 1, 24, 25, 26, 27, 28, 29, 30, 31, 32, 33, 34, 35, 36, 37, 38, 39, 40, 41, 42, 43, 44, 45, 46, 47, 48, 49, 50, 51, 52, 53, 54, 55] (by decide +kernel) (by decide +kernel)
set_option maxRecDepth 20000 in
theorem gX9_ofCell_X9_tithe : GoodIn wsX9_ofCell (wsV RX9 136 RX9 yX9_tithe wsX9_tithe) := goodIn_app (goodIn_of _ (by decide +kernel)) ggX9_ofCell_X9_tithe
set_option maxRecDepth 20000 in
theorem ggX9_ofCell_X9_hanging : GoodIn wsX9_ofCell wsX9_hanging := goodIn_r _ [21, 22, 23, 24, 25, 26, 27, 28, 29, 30, 31, 32, 33, 34, 35, 36, 37, 38, 39, 40, 41, 42, 43, 44, 45, 46, 47, 48, 49, 50, 51, 52, 53, 54, 55] (by decide +kernel) (by decide +kernel)
set_option maxRecDepth 20000 in
theorem gX9_ofCell_X9_hanging : GoodIn wsX9_ofCell (wsV RX9 139 RX9 yX9_hanging wsX9_hanging) := goodIn_app (goodIn_of _ (by decide +kernel)) ggX9_ofCell_X9_hanging
theorem dX9_ofCell_0 : decode cX9_ofCell 0 = .ok (.aload_n 0, 1) := by decide +kernel
theorem dX9_ofCell_1 : decode cX9_ofCell 1 = .ok (.iload_n 1, 1) := by decide +kernel
theorem dX9_ofCell_2 : decode cX9_ofCell 2 = .ok (.invokevirtual 133, 3) := by decide +kernel
theorem dX9_ofCell_5 : decode cX9_ofCell 5 = .ok (.ifCond .ne 5, 3) := by decide +kernel
theorem dX9_ofCell_8 : decode cX9_ofCell 8 = .ok (.iconst (-1), 1) := by decide +kernel
theorem dX9_ofCell_9 : decode cX9_ofCell 9 = .ok (.ireturn, 1) := by decide +kernel
theorem dX9_ofCell_10 : decode cX9_ofCell 10 = .ok (.iload_n 2, 1) := by decide +kernel
theorem dX9_ofCell_11 : decode cX9_ofCell 11 = .ok (.tableswitch 63 0 3 #[29, 36, 42, 57], 29) := by decide +kernel
theorem dX9_ofCell_40 : decode cX9_ofCell 40 = .ok (.aload_n 0, 1) := by decide +kernel
theorem dX9_ofCell_41 : decode cX9_ofCell 41 = .ok (.getfield 19, 3) := by decide +kernel
theorem dX9_ofCell_44 : decode cX9_ofCell 44 = .ok (.iload_n 1, 1) := by decide +kernel
theorem dX9_ofCell_45 : decode cX9_ofCell 45 = .ok (.iaload, 1) := by decide +kernel
theorem dX9_ofCell_46 : decode cX9_ofCell 46 = .ok (.ireturn, 1) := by decide +kernel
theorem dX9_ofCell_47 : decode cX9_ofCell 47 = .ok (.aload_n 0, 1) := by decide +kernel
theorem dX9_ofCell_48 : decode cX9_ofCell 48 = .ok (.iload_n 1, 1) := by decide +kernel
theorem dX9_ofCell_49 : decode cX9_ofCell 49 = .ok (.invokevirtual 136, 3) := by decide +kernel
theorem dX9_ofCell_52 : decode cX9_ofCell 52 = .ok (.ireturn, 1) := by decide +kernel
theorem dX9_ofCell_53 : decode cX9_ofCell 53 = .ok (.aload_n 0, 1) := by decide +kernel
theorem dX9_ofCell_54 : decode cX9_ofCell 54 = .ok (.getfield 22, 3) := by decide +kernel
theorem dX9_ofCell_57 : decode cX9_ofCell 57 = .ok (.iload_n 1, 1) := by decide +kernel
theorem dX9_ofCell_58 : decode cX9_ofCell 58 = .ok (.baload, 1) := by decide +kernel
theorem dX9_ofCell_59 : decode cX9_ofCell 59 = .ok (.ifCond .eq 7, 3) := by decide +kernel
theorem dX9_ofCell_62 : decode cX9_ofCell 62 = .ok (.iconst 1, 1) := by decide +kernel
theorem dX9_ofCell_63 : decode cX9_ofCell 63 = .ok (.goto 4, 3) := by decide +kernel
theorem dX9_ofCell_66 : decode cX9_ofCell 66 = .ok (.iconst 0, 1) := by decide +kernel
theorem dX9_ofCell_67 : decode cX9_ofCell 67 = .ok (.ireturn, 1) := by decide +kernel
theorem dX9_ofCell_68 : decode cX9_ofCell 68 = .ok (.aload_n 0, 1) := by decide +kernel
theorem dX9_ofCell_69 : decode cX9_ofCell 69 = .ok (.iload_n 1, 1) := by decide +kernel
theorem dX9_ofCell_70 : decode cX9_ofCell 70 = .ok (.invokevirtual 139, 3) := by decide +kernel
theorem dX9_ofCell_73 : decode cX9_ofCell 73 = .ok (.ireturn, 1) := by decide +kernel
theorem dX9_ofCell_74 : decode cX9_ofCell 74 = .ok (.bipush (-2), 2) := by decide +kernel
theorem dX9_ofCell_76 : decode cX9_ofCell 76 = .ok (.ireturn, 1) := by decide +kernel
theorem dX9_hanging_0 : decode cX9_hanging 0 = .ok (.iconst 0, 1) := by decide +kernel
theorem dX9_hanging_1 : decode cX9_hanging 1 = .ok (.istore_n 2, 1) := by decide +kernel
theorem dX9_hanging_2 : decode cX9_hanging 2 = .ok (.iconst 0, 1) := by decide +kernel
theorem dX9_hanging_3 : decode cX9_hanging 3 = .ok (.istore_n 3, 1) := by decide +kernel
theorem dX9_hanging_4 : decode cX9_hanging 4 = .ok (.iload_n 3, 1) := by decide +kernel
theorem dX9_hanging_5 : decode cX9_hanging 5 = .ok (.aload_n 0, 1) := by decide +kernel
theorem dX9_hanging_6 : decode cX9_hanging 6 = .ok (.getfield 116, 3) := by decide +kernel
theorem dX9_hanging_9 : decode cX9_hanging 9 = .ok (.if_icmp .ge 27, 3) := by decide +kernel
theorem dX9_hanging_12 : decode cX9_hanging 12 = .ok (.iload_n 2, 1) := by decide +kernel
theorem dX9_hanging_13 : decode cX9_hanging 13 = .ok (.aload_n 0, 1) := by decide +kernel
theorem dX9_hanging_14 : decode cX9_hanging 14 = .ok (.getfield 32, 3) := by decide +kernel
theorem dX9_hanging_17 : decode cX9_hanging 17 = .ok (.iload_n 3, 1) := by decide +kernel
theorem dX9_hanging_18 : decode cX9_hanging 18 = .ok (.iaload, 1) := by decide +kernel
theorem dX9_hanging_19 : decode cX9_hanging 19 = .ok (.iload_n 1, 1) := by decide +kernel
theorem dX9_hanging_20 : decode cX9_hanging 20 = .ok (.if_icmp .ne 7, 3) := by decide +kernel
theorem dX9_hanging_23 : decode cX9_hanging 23 = .ok (.iconst 1, 1) := by decide +kernel
theorem dX9_hanging_24 : decode cX9_hanging 24 = .ok (.goto 4, 3) := by decide +kernel
theorem dX9_hanging_27 : decode cX9_hanging 27 = .ok (.iconst 0, 1) := by decide +kernel
theorem dX9_hanging_28 : decode cX9_hanging 28 = .ok (.iadd, 1) := by decide +kernel
theorem dX9_hanging_29 : decode cX9_hanging 29 = .ok (.istore_n 2, 1) := by decide +kernel
theorem dX9_hanging_30 : decode cX9_hanging 30 = .ok (.iinc 3 1, 3) := by decide +kernel
theorem dX9_hanging_33 : decode cX9_hanging 33 = .ok (.goto (-29), 3) := by decide +kernel
theorem dX9_hanging_36 : decode cX9_hanging 36 = .ok (.iload_n 2, 1) := by decide +kernel
theorem dX9_hanging_37 : decode cX9_hanging 37 = .ok (.ireturn, 1) := by decide +kernel
set_option maxRecDepth 20000 in
theorem ggX9_plant_X9_isCell : GoodIn wsX9_plant wsX9_isCell := goodIn_r _ [6, 7, 8, 9, 5, 10, 11, 12, 13, 14, 15, 16, 17, 18, 19, 20, 21, 22, 23, 24, 25, 26, 27, 28, 29, 30, 31, 32, 33, 34, 35, 36, 37, 38, 39, 40, 41, 42, 43, 44] (by decide +kernel) (by decide +kernel)
set_option maxRecDepth 20000 in
theorem gX9_plant_X9_isCell : GoodIn wsX9_plant (wsV RX9 133 RX9 yX9_isCell wsX9_isCell) := goodIn_app (goodIn_of _ (by decide +kernel)) ggX9_plant_X9_isCell
theorem dX9_plant_0 : decode cX9_plant 0 = .ok (.aload_n 0, 1) := by decide +kernel
theorem dX9_plant_1 : decode cX9_plant 1 = .ok (.iload_n 1, 1) := by decide +kernel
theorem dX9_plant_2 : decode cX9_plant 2 = .ok (.invokevirtual 133, 3) := by decide +kernel
theorem dX9_plant_5 : decode cX9_plant 5 = .ok (.ifCond .ne 5, 3) := by decide +kernel
theorem dX9_plant_8 : decode cX9_plant 8 = .ok (.iconst (-1), 1) := by decide +kernel
theorem dX9_plant_9 : decode cX9_plant 9 = .ok (.ireturn, 1) := by decide +kernel
theorem dX9_plant_10 : decode cX9_plant 10 = .ok (.aload_n 0, 1) := by decide +kernel
theorem dX9_plant_11 : decode cX9_plant 11 = .ok (.getfield 22, 3) := by decide +kernel
theorem dX9_plant_14 : decode cX9_plant 14 = .ok (.iload_n 1, 1) := by decide +kernel
theorem dX9_plant_15 : decode cX9_plant 15 = .ok (.baload, 1) := by decide +kernel
theorem dX9_plant_16 : decode cX9_plant 16 = .ok (.istore_n 3, 1) := by decide +kernel
theorem dX9_plant_17 : decode cX9_plant 17 = .ok (.aload_n 0, 1) := by decide +kernel
theorem dX9_plant_18 : decode cX9_plant 18 = .ok (.getfield 22, 3) := by decide +kernel
theorem dX9_plant_21 : decode cX9_plant 21 = .ok (.iload_n 1, 1) := by decide +kernel
theorem dX9_plant_22 : decode cX9_plant 22 = .ok (.iload_n 2, 1) := by decide +kernel
theorem dX9_plant_23 : decode cX9_plant 23 = .ok (.bastore, 1) := by decide +kernel
theorem dX9_plant_24 : decode cX9_plant 24 = .ok (.iload_n 3, 1) := by decide +kernel
theorem dX9_plant_25 : decode cX9_plant 25 = .ok (.iload_n 2, 1) := by decide +kernel
theorem dX9_plant_26 : decode cX9_plant 26 = .ok (.if_icmp .ne 7, 3) := by decide +kernel
theorem dX9_plant_29 : decode cX9_plant 29 = .ok (.iconst 0, 1) := by decide +kernel
theorem dX9_plant_30 : decode cX9_plant 30 = .ok (.goto 4, 3) := by decide +kernel
theorem dX9_plant_33 : decode cX9_plant 33 = .ok (.iconst 1, 1) := by decide +kernel
theorem dX9_plant_34 : decode cX9_plant 34 = .ok (.ireturn, 1) := by decide +kernel
set_option maxRecDepth 20000 in
theorem ggX9_ear_X9_within : GoodIn wsX9_ear wsX9_within := goodIn_r _ [5] (by decide +kernel) (by decide +kernel)
set_option maxRecDepth 20000 in
theorem gX9_ear_X9_within : GoodIn wsX9_ear (va_wsS RX9 75 yX9_within wsX9_within) := goodIn_app (goodIn_of _ (by decide +kernel)) ggX9_ear_X9_within
set_option maxRecDepth 20000 in
theorem ggX9_ear_X9_all : GoodIn wsX9_ear wsX9_all := goodIn_r _ [9, 10, 11, 12, 13, 14, 15, 16, 17, 18, 19, 20, 21, 22, 23, 24, 25, 26, 27, 28, 29, 30, 31, 32, 33, 34, 35, 36, 37, 38, 39, 40, 41, 42, 43] (by decide +kernel) (by decide +kernel)
set_option maxRecDepth 20000 in
theorem gX9_ear_X9_all : GoodIn wsX9_ear (wsV RX9 85 RX9 yX9_all wsX9_all) := goodIn_app (goodIn_of _ (by decide +kernel)) ggX9_ear_X9_all
theorem dX9_ear_0 : decode cX9_ear 0 = .ok (.iload_n 1, 1) := by decide +kernel
theorem dX9_ear_1 : decode cX9_ear 1 = .ok (.iconst 0, 1) := by decide +kernel
theorem dX9_ear_2 : decode cX9_ear 2 = .ok (.bipush 99, 2) := by decide +kernel
theorem dX9_ear_4 : decode cX9_ear 4 = .ok (.invokestatic 75, 3) := by decide +kernel
theorem dX9_ear_7 : decode cX9_ear 7 = .ok (.ifCond .ne 6, 3) := by decide +kernel
theorem dX9_ear_10 : decode cX9_ear 10 = .ok (.bipush (-2), 2) := by decide +kernel
theorem dX9_ear_12 : decode cX9_ear 12 = .ok (.ireturn, 1) := by decide +kernel
theorem dX9_ear_13 : decode cX9_ear 13 = .ok (.aload_n 0, 1) := by decide +kernel
theorem dX9_ear_14 : decode cX9_ear 14 = .ok (.invokevirtual 85, 3) := by decide +kernel
theorem dX9_ear_17 : decode cX9_ear 17 = .ok (.ifCond .ne 6, 3) := by decide +kernel
theorem dX9_ear_20 : decode cX9_ear 20 = .ok (.bipush (-3), 2) := by decide +kernel
theorem dX9_ear_22 : decode cX9_ear 22 = .ok (.ireturn, 1) := by decide +kernel
theorem dX9_ear_23 : decode cX9_ear 23 = .ok (.aload_n 0, 1) := by decide +kernel
theorem dX9_ear_24 : decode cX9_ear 24 = .ok (.getfield 122, 3) := by decide +kernel
theorem dX9_ear_27 : decode cX9_ear 27 = .ok (.istore_n 2, 1) := by decide +kernel
theorem dX9_ear_28 : decode cX9_ear 28 = .ok (.aload_n 0, 1) := by decide +kernel
theorem dX9_ear_29 : decode cX9_ear 29 = .ok (.iload_n 1, 1) := by decide +kernel
theorem dX9_ear_30 : decode cX9_ear 30 = .ok (.putfield 122, 3) := by decide +kernel
theorem dX9_ear_33 : decode cX9_ear 33 = .ok (.iload_n 2, 1) := by decide +kernel
theorem dX9_ear_34 : decode cX9_ear 34 = .ok (.ireturn, 1) := by decide +kernel
theorem dX9_isBell_0 : decode cX9_isBell 0 = .ok (.iload_n 1, 1) := by decide +kernel
theorem dX9_isBell_1 : decode cX9_isBell 1 = .ok (.ifCond .lt 15, 3) := by decide +kernel
theorem dX9_isBell_4 : decode cX9_isBell 4 = .ok (.iload_n 1, 1) := by decide +kernel
theorem dX9_isBell_5 : decode cX9_isBell 5 = .ok (.aload_n 0, 1) := by decide +kernel
theorem dX9_isBell_6 : decode cX9_isBell 6 = .ok (.getfield 116, 3) := by decide +kernel
theorem dX9_isBell_9 : decode cX9_isBell 9 = .ok (.if_icmp .ge 7, 3) := by decide +kernel
theorem dX9_isBell_12 : decode cX9_isBell 12 = .ok (.iconst 1, 1) := by decide +kernel
theorem dX9_isBell_13 : decode cX9_isBell 13 = .ok (.goto 4, 3) := by decide +kernel
theorem dX9_isBell_16 : decode cX9_isBell 16 = .ok (.iconst 0, 1) := by decide +kernel
theorem dX9_isBell_17 : decode cX9_isBell 17 = .ok (.ireturn, 1) := by decide +kernel
set_option maxRecDepth 20000 in
theorem ggX9_isWeight_X9_within : GoodIn wsX9_isWeight wsX9_within := goodIn_r _ [4] (by decide +kernel) (by decide +kernel)
set_option maxRecDepth 20000 in
theorem gX9_isWeight_X9_within : GoodIn wsX9_isWeight (va_wsS RX9 75 yX9_within wsX9_within) := goodIn_app (goodIn_of _ (by decide +kernel)) ggX9_isWeight_X9_within
theorem dX9_isWeight_0 : decode cX9_isWeight 0 = .ok (.iload_n 0, 1) := by decide +kernel
theorem dX9_isWeight_1 : decode cX9_isWeight 1 = .ok (.iconst 1, 1) := by decide +kernel
theorem dX9_isWeight_2 : decode cX9_isWeight 2 = .ok (.bipush 99, 2) := by decide +kernel
theorem dX9_isWeight_4 : decode cX9_isWeight 4 = .ok (.invokestatic 75, 3) := by decide +kernel
theorem dX9_isWeight_7 : decode cX9_isWeight 7 = .ok (.ireturn, 1) := by decide +kernel
set_option maxRecDepth 20000 in
theorem ggX9_isWind_X9_within : GoodIn wsX9_isWind wsX9_within := goodIn_r _ [4] (by decide +kernel) (by decide +kernel)
set_option maxRecDepth 20000 in
theorem gX9_isWind_X9_within : GoodIn wsX9_isWind (va_wsS RX9 75 yX9_within wsX9_within) := goodIn_app (goodIn_of _ (by decide +kernel)) ggX9_isWind_X9_within
theorem dX9_isWind_0 : decode cX9_isWind 0 = .ok (.iload_n 0, 1) := by decide +kernel
theorem dX9_isWind_1 : decode cX9_isWind 1 = .ok (.iconst 0, 1) := by decide +kernel
theorem dX9_isWind_2 : decode cX9_isWind 2 = .ok (.bipush 39, 2) := by decide +kernel
theorem dX9_isWind_4 : decode cX9_isWind 4 = .ok (.invokestatic 75, 3) := by decide +kernel
theorem dX9_isWind_7 : decode cX9_isWind 7 = .ok (.ireturn, 1) := by decide +kernel
set_option maxRecDepth 20000 in
theorem ggX9_bell_X9_isCell : GoodIn wsX9_bell wsX9_isCell := goodIn_r _ [9, 10, 11, 12, 8, 13, 14, 15, 22, 23, 24, 25, 26, 27, 28, 29, 30, 31, 32, 33, 34, 35, 36, 37, 38, 39, 40, 41, 42, 43, 44, 45, 46, 47, 48, 49, 50, 51, 52, 53] (by decide +kernel) (by decide +kernel)
set_option maxRecDepth 20000 in
theorem gX9_bell_X9_isCell : GoodIn wsX9_bell (wsV RX9 133 RX9 yX9_isCell wsX9_isCell) := goodIn_app (goodIn_of _ (by decide +kernel)) ggX9_bell_X9_isCell
set_option maxRecDepth 20000 in
theorem ggX9_bell_X9_within : GoodIn wsX9_bell wsX9_within := goodIn_r _ [18] (by decide +kernel) (by decide +kernel)
set_option maxRecDepth 20000 in
theorem gX9_bell_X9_within : GoodIn wsX9_bell (va_wsS RX9 75 yX9_within wsX9_within) := goodIn_app (goodIn_of _ (by decide +kernel)) ggX9_bell_X9_within
set_option maxRecDepth 20000 in
theorem ggX9_bell_X9_isWeight : GoodIn wsX9_bell wsX9_isWeight := goodIn_r _ [21, 16, 17, 8, 18] (by decide +kernel) (by decide +kernel)
set_option maxRecDepth 20000 in
theorem gX9_bell_X9_isWeight : GoodIn wsX9_bell (va_wsS RX9 142 yX9_isWeight wsX9_isWeight) := goodIn_app (goodIn_of _ (by decide +kernel)) ggX9_bell_X9_isWeight
theorem dX9_bell_0 : decode cX9_bell 0 = .ok (.aload_n 0, 1) := by decide +kernel
theorem dX9_bell_1 : decode cX9_bell 1 = .ok (.iload_n 2, 1) := by decide +kernel
theorem dX9_bell_2 : decode cX9_bell 2 = .ok (.invokevirtual 133, 3) := by decide +kernel
theorem dX9_bell_5 : decode cX9_bell 5 = .ok (.ifCond .ne 5, 3) := by decide +kernel
theorem dX9_bell_8 : decode cX9_bell 8 = .ok (.iconst (-1), 1) := by decide +kernel
theorem dX9_bell_9 : decode cX9_bell 9 = .ok (.ireturn, 1) := by decide +kernel
theorem dX9_bell_10 : decode cX9_bell 10 = .ok (.iload_n 1, 1) := by decide +kernel
theorem dX9_bell_11 : decode cX9_bell 11 = .ok (.iconst 0, 1) := by decide +kernel
theorem dX9_bell_12 : decode cX9_bell 12 = .ok (.iconst 2, 1) := by decide +kernel
theorem dX9_bell_13 : decode cX9_bell 13 = .ok (.invokestatic 75, 3) := by decide +kernel
theorem dX9_bell_16 : decode cX9_bell 16 = .ok (.ifCond .eq 10, 3) := by decide +kernel
theorem dX9_bell_19 : decode cX9_bell 19 = .ok (.iload_n 3, 1) := by decide +kernel
theorem dX9_bell_20 : decode cX9_bell 20 = .ok (.invokestatic 142, 3) := by decide +kernel
theorem dX9_bell_23 : decode cX9_bell 23 = .ok (.ifCond .ne 6, 3) := by decide +kernel
theorem dX9_bell_26 : decode cX9_bell 26 = .ok (.bipush (-2), 2) := by decide +kernel
theorem dX9_bell_28 : decode cX9_bell 28 = .ok (.ireturn, 1) := by decide +kernel
theorem dX9_bell_29 : decode cX9_bell 29 = .ok (.aload_n 0, 1) := by decide +kernel
theorem dX9_bell_30 : decode cX9_bell 30 = .ok (.getfield 116, 3) := by decide +kernel
theorem dX9_bell_33 : decode cX9_bell 33 = .ok (.bipush 6, 2) := by decide +kernel
theorem dX9_bell_35 : decode cX9_bell 35 = .ok (.if_icmp .ne 6, 3) := by decide +kernel
theorem dX9_bell_38 : decode cX9_bell 38 = .ok (.bipush (-4), 2) := by decide +kernel
theorem dX9_bell_40 : decode cX9_bell 40 = .ok (.ireturn, 1) := by decide +kernel
theorem dX9_bell_41 : decode cX9_bell 41 = .ok (.aload_n 0, 1) := by decide +kernel
theorem dX9_bell_42 : decode cX9_bell 42 = .ok (.getfield 29, 3) := by decide +kernel
theorem dX9_bell_45 : decode cX9_bell 45 = .ok (.aload_n 0, 1) := by decide +kernel
theorem dX9_bell_46 : decode cX9_bell 46 = .ok (.getfield 116, 3) := by decide +kernel
theorem dX9_bell_49 : decode cX9_bell 49 = .ok (.iload_n 1, 1) := by decide +kernel
theorem dX9_bell_50 : decode cX9_bell 50 = .ok (.iastore, 1) := by decide +kernel
theorem dX9_bell_51 : decode cX9_bell 51 = .ok (.aload_n 0, 1) := by decide +kernel
theorem dX9_bell_52 : decode cX9_bell 52 = .ok (.getfield 32, 3) := by decide +kernel
theorem dX9_bell_55 : decode cX9_bell 55 = .ok (.aload_n 0, 1) := by decide +kernel
theorem dX9_bell_56 : decode cX9_bell 56 = .ok (.getfield 116, 3) := by decide +kernel
theorem dX9_bell_59 : decode cX9_bell 59 = .ok (.iload_n 2, 1) := by decide +kernel
theorem dX9_bell_60 : decode cX9_bell 60 = .ok (.iastore, 1) := by decide +kernel
theorem dX9_bell_61 : decode cX9_bell 61 = .ok (.aload_n 0, 1) := by decide +kernel
theorem dX9_bell_62 : decode cX9_bell 62 = .ok (.getfield 35, 3) := by decide +kernel
theorem dX9_bell_65 : decode cX9_bell 65 = .ok (.aload_n 0, 1) := by decide +kernel
theorem dX9_bell_66 : decode cX9_bell 66 = .ok (.getfield 116, 3) := by decide +kernel
theorem dX9_bell_69 : decode cX9_bell 69 = .ok (.iload_n 3, 1) := by decide +kernel
theorem dX9_bell_70 : decode cX9_bell 70 = .ok (.iastore, 1) := by decide +kernel
theorem dX9_bell_71 : decode cX9_bell 71 = .ok (.aload_n 0, 1) := by decide +kernel
theorem dX9_bell_72 : decode cX9_bell 72 = .ok (.dup, 1) := by decide +kernel
theorem dX9_bell_73 : decode cX9_bell 73 = .ok (.getfield 116, 3) := by decide +kernel
theorem dX9_bell_76 : decode cX9_bell 76 = .ok (.iconst 1, 1) := by decide +kernel
theorem dX9_bell_77 : decode cX9_bell 77 = .ok (.iadd, 1) := by decide +kernel
theorem dX9_bell_78 : decode cX9_bell 78 = .ok (.putfield 116, 3) := by decide +kernel
theorem dX9_bell_81 : decode cX9_bell 81 = .ok (.aload_n 0, 1) := by decide +kernel
theorem dX9_bell_82 : decode cX9_bell 82 = .ok (.getfield 116, 3) := by decide +kernel
theorem dX9_bell_85 : decode cX9_bell 85 = .ok (.iconst 1, 1) := by decide +kernel
theorem dX9_bell_86 : decode cX9_bell 86 = .ok (.isub, 1) := by decide +kernel
theorem dX9_bell_87 : decode cX9_bell 87 = .ok (.ireturn, 1) := by decide +kernel
set_option maxRecDepth 20000 in
theorem ggX9_ofBell_X9_isBell : GoodIn wsX9_ofBell wsX9_isBell := goodIn_r _ [8, 9, 10, 11, 12, 13, 14, 15, 16, 17, 18, 19, 20, 21, 22, 23, 24, 25, 26, 27, 28, 29, 30, 31, 32, 33, 34, 35, 36, 37, 38, 39, 40, 41] (by decide +kernel) (by decide +kernel)
set_option maxRecDepth 20000 in
theorem gX9_ofBell_X9_isBell : GoodIn wsX9_ofBell (wsV RX9 145 RX9 yX9_isBell wsX9_isBell) := goodIn_app (goodIn_of _ (by decide +kernel)) ggX9_ofBell_X9_isBell
theorem dX9_ofBell_0 : decode cX9_ofBell 0 = .ok (.aload_n 0, 1) := by decide +kernel
theorem dX9_ofBell_1 : decode cX9_ofBell 1 = .ok (.iload_n 1, 1) := by decide +kernel
theorem dX9_ofBell_2 : decode cX9_ofBell 2 = .ok (.invokevirtual 145, 3) := by decide +kernel
theorem dX9_ofBell_5 : decode cX9_ofBell 5 = .ok (.ifCond .ne 5, 3) := by decide +kernel
theorem dX9_ofBell_8 : decode cX9_ofBell 8 = .ok (.iconst (-1), 1) := by decide +kernel
theorem dX9_ofBell_9 : decode cX9_ofBell 9 = .ok (.ireturn, 1) := by decide +kernel
theorem dX9_ofBell_10 : decode cX9_ofBell 10 = .ok (.iload_n 2, 1) := by decide +kernel
theorem dX9_ofBell_11 : decode cX9_ofBell 11 = .ok (.ifCond .ne 12, 3) := by decide +kernel
theorem dX9_ofBell_14 : decode cX9_ofBell 14 = .ok (.aload_n 0, 1) := by decide +kernel
theorem dX9_ofBell_15 : decode cX9_ofBell 15 = .ok (.getfield 29, 3) := by decide +kernel
theorem dX9_ofBell_18 : decode cX9_ofBell 18 = .ok (.iload_n 1, 1) := by decide +kernel
theorem dX9_ofBell_19 : decode cX9_ofBell 19 = .ok (.iaload, 1) := by decide +kernel
theorem dX9_ofBell_20 : decode cX9_ofBell 20 = .ok (.goto 33, 3) := by decide +kernel
theorem dX9_ofBell_23 : decode cX9_ofBell 23 = .ok (.iload_n 2, 1) := by decide +kernel
theorem dX9_ofBell_24 : decode cX9_ofBell 24 = .ok (.iconst 1, 1) := by decide +kernel
theorem dX9_ofBell_25 : decode cX9_ofBell 25 = .ok (.if_icmp .ne 12, 3) := by decide +kernel
theorem dX9_ofBell_28 : decode cX9_ofBell 28 = .ok (.aload_n 0, 1) := by decide +kernel
theorem dX9_ofBell_29 : decode cX9_ofBell 29 = .ok (.getfield 32, 3) := by decide +kernel
theorem dX9_ofBell_32 : decode cX9_ofBell 32 = .ok (.iload_n 1, 1) := by decide +kernel
theorem dX9_ofBell_33 : decode cX9_ofBell 33 = .ok (.iaload, 1) := by decide +kernel
theorem dX9_ofBell_34 : decode cX9_ofBell 34 = .ok (.goto 19, 3) := by decide +kernel
theorem dX9_ofBell_37 : decode cX9_ofBell 37 = .ok (.iload_n 2, 1) := by decide +kernel
theorem dX9_ofBell_38 : decode cX9_ofBell 38 = .ok (.iconst 2, 1) := by decide +kernel
theorem dX9_ofBell_39 : decode cX9_ofBell 39 = .ok (.if_icmp .ne 12, 3) := by decide +kernel
theorem dX9_ofBell_42 : decode cX9_ofBell 42 = .ok (.aload_n 0, 1) := by decide +kernel
theorem dX9_ofBell_43 : decode cX9_ofBell 43 = .ok (.getfield 35, 3) := by decide +kernel
theorem dX9_ofBell_46 : decode cX9_ofBell 46 = .ok (.iload_n 1, 1) := by decide +kernel
theorem dX9_ofBell_47 : decode cX9_ofBell 47 = .ok (.iaload, 1) := by decide +kernel
theorem dX9_ofBell_48 : decode cX9_ofBell 48 = .ok (.goto 5, 3) := by decide +kernel
theorem dX9_ofBell_51 : decode cX9_ofBell 51 = .ok (.bipush (-2), 2) := by decide +kernel
theorem dX9_ofBell_53 : decode cX9_ofBell 53 = .ok (.ireturn, 1) := by decide +kernel
set_option maxRecDepth 20000 in
theorem ggX9_recast_X9_isBell : GoodIn wsX9_recast wsX9_isBell := goodIn_r _ [6, 7, 14, 15, 16, 17, 18, 19, 20, 21, 22, 23, 24, 25, 26, 27, 28, 29, 30, 31, 32, 33, 34, 35, 36, 37, 38, 39, 40, 41, 42, 43, 44, 45] (by decide +kernel) (by decide +kernel)
set_option maxRecDepth 20000 in
theorem gX9_recast_X9_isBell : GoodIn wsX9_recast (wsV RX9 145 RX9 yX9_isBell wsX9_isBell) := goodIn_app (goodIn_of _ (by decide +kernel)) ggX9_recast_X9_isBell
set_option maxRecDepth 20000 in
theorem ggX9_recast_X9_isWeight : GoodIn wsX9_recast wsX9_isWeight := goodIn_r _ [10, 11, 12, 5, 13] (by decide +kernel) (by decide +kernel)
set_option maxRecDepth 20000 in
theorem gX9_recast_X9_isWeight : GoodIn wsX9_recast (va_wsS RX9 142 yX9_isWeight wsX9_isWeight) := goodIn_app (goodIn_of _ (by decide +kernel)) ggX9_recast_X9_isWeight
theorem dX9_recast_0 : decode cX9_recast 0 = .ok (.aload_n 0, 1) := by decide +kernel
theorem dX9_recast_1 : decode cX9_recast 1 = .ok (.iload_n 1, 1) := by decide +kernel
theorem dX9_recast_2 : decode cX9_recast 2 = .ok (.invokevirtual 145, 3) := by decide +kernel
theorem dX9_recast_5 : decode cX9_recast 5 = .ok (.ifCond .ne 5, 3) := by decide +kernel
theorem dX9_recast_8 : decode cX9_recast 8 = .ok (.iconst (-1), 1) := by decide +kernel
theorem dX9_recast_9 : decode cX9_recast 9 = .ok (.ireturn, 1) := by decide +kernel
theorem dX9_recast_10 : decode cX9_recast 10 = .ok (.iload_n 2, 1) := by decide +kernel
theorem dX9_recast_11 : decode cX9_recast 11 = .ok (.invokestatic 142, 3) := by decide +kernel
theorem dX9_recast_14 : decode cX9_recast 14 = .ok (.ifCond .ne 6, 3) := by decide +kernel
theorem dX9_recast_17 : decode cX9_recast 17 = .ok (.bipush (-2), 2) := by decide +kernel
theorem dX9_recast_19 : decode cX9_recast 19 = .ok (.ireturn, 1) := by decide +kernel
theorem dX9_recast_20 : decode cX9_recast 20 = .ok (.aload_n 0, 1) := by decide +kernel
theorem dX9_recast_21 : decode cX9_recast 21 = .ok (.getfield 35, 3) := by decide +kernel
theorem dX9_recast_24 : decode cX9_recast 24 = .ok (.iload_n 1, 1) := by decide +kernel
theorem dX9_recast_25 : decode cX9_recast 25 = .ok (.iaload, 1) := by decide +kernel
theorem dX9_recast_26 : decode cX9_recast 26 = .ok (.istore_n 3, 1) := by decide +kernel
theorem dX9_recast_27 : decode cX9_recast 27 = .ok (.aload_n 0, 1) := by decide +kernel
theorem dX9_recast_28 : decode cX9_recast 28 = .ok (.getfield 35, 3) := by decide +kernel
theorem dX9_recast_31 : decode cX9_recast 31 = .ok (.iload_n 1, 1) := by decide +kernel
theorem dX9_recast_32 : decode cX9_recast 32 = .ok (.iload_n 2, 1) := by decide +kernel
theorem dX9_recast_33 : decode cX9_recast 33 = .ok (.iastore, 1) := by decide +kernel
theorem dX9_recast_34 : decode cX9_recast 34 = .ok (.iload_n 3, 1) := by decide +kernel
theorem dX9_recast_35 : decode cX9_recast 35 = .ok (.ireturn, 1) := by decide +kernel
theorem dX9_size_0 : decode cX9_size 0 = .ok (.iload_n 0, 1) := by decide +kernel
theorem dX9_size_1 : decode cX9_size 1 = .ok (.ifCond .ge 8, 3) := by decide +kernel
theorem dX9_size_4 : decode cX9_size 4 = .ok (.iload_n 0, 1) := by decide +kernel
theorem dX9_size_5 : decode cX9_size 5 = .ok (.ineg, 1) := by decide +kernel
theorem dX9_size_6 : decode cX9_size 6 = .ok (.goto 4, 3) := by decide +kernel
theorem dX9_size_9 : decode cX9_size 9 = .ok (.iload_n 0, 1) := by decide +kernel
theorem dX9_size_10 : decode cX9_size 10 = .ok (.ireturn, 1) := by decide +kernel
theorem dX9_onTo_0 : decode cX9_onTo 0 = .ok (.iconst 2, 1) := by decide +kernel
theorem dX9_onTo_1 : decode cX9_onTo 1 = .ok (.iload_n 1, 1) := by decide +kernel
theorem dX9_onTo_2 : decode cX9_onTo 2 = .ok (.imul, 1) := by decide +kernel
theorem dX9_onTo_3 : decode cX9_onTo 3 = .ok (.iload_n 0, 1) := by decide +kernel
theorem dX9_onTo_4 : decode cX9_onTo 4 = .ok (.imul, 1) := by decide +kernel
theorem dX9_onTo_5 : decode cX9_onTo 5 = .ok (.istore_n 3, 1) := by decide +kernel
theorem dX9_onTo_6 : decode cX9_onTo 6 = .ok (.iload_n 3, 1) := by decide +kernel
theorem dX9_onTo_7 : decode cX9_onTo 7 = .ok (.ifCond .ge 9, 3) := by decide +kernel
theorem dX9_onTo_10 : decode cX9_onTo 10 = .ok (.iload_n 3, 1) := by decide +kernel
theorem dX9_onTo_11 : decode cX9_onTo 11 = .ok (.iload_n 2, 1) := by decide +kernel
theorem dX9_onTo_12 : decode cX9_onTo 12 = .ok (.isub, 1) := by decide +kernel
theorem dX9_onTo_13 : decode cX9_onTo 13 = .ok (.goto 6, 3) := by decide +kernel
theorem dX9_onTo_16 : decode cX9_onTo 16 = .ok (.iload_n 3, 1) := by decide +kernel
theorem dX9_onTo_17 : decode cX9_onTo 17 = .ok (.iload_n 2, 1) := by decide +kernel
theorem dX9_onTo_18 : decode cX9_onTo 18 = .ok (.iadd, 1) := by decide +kernel
theorem dX9_onTo_19 : decode cX9_onTo 19 = .ok (.iconst 2, 1) := by decide +kernel
theorem dX9_onTo_20 : decode cX9_onTo 20 = .ok (.iload_n 2, 1) := by decide +kernel
theorem dX9_onTo_21 : decode cX9_onTo 21 = .ok (.imul, 1) := by decide +kernel
theorem dX9_onTo_22 : decode cX9_onTo 22 = .ok (.idiv, 1) := by decide +kernel
theorem dX9_onTo_23 : decode cX9_onTo 23 = .ok (.ireturn, 1) := by decide +kernel
set_option maxRecDepth 20000 in
theorem ggX9_findLoud_X9_size : GoodIn wsX9_findLoud wsX9_size := goodIn_r _ [13] (by decide +kernel) (by decide +kernel)
set_option maxRecDepth 20000 in
theorem gX9_findLoud_X9_size : GoodIn wsX9_findLoud (va_wsS RX9 157 yX9_size wsX9_size) := goodIn_app (goodIn_of _ (by decide +kernel)) ggX9_findLoud_X9_size
set_option maxRecDepth 20000 in
theorem ggX9_findLoud_X9_onTo : GoodIn wsX9_findLoud wsX9_onTo := goodIn_r _ [16] (by decide +kernel) (by decide +kernel)
set_option maxRecDepth 20000 in
theorem gX9_findLoud_X9_onTo : GoodIn wsX9_findLoud (va_wsS RX9 160 yX9_onTo wsX9_onTo) := goodIn_app (goodIn_of _ (by decide +kernel)) ggX9_findLoud_X9_onTo
set_option maxRecDepth 20000 in
theorem ggX9_findLoud_X9_alongWind : GoodIn wsX9_findLoud wsX9_alongWind := goodIn_r _ [19] (by decide +kernel) (by decide +kernel)
set_option maxRecDepth 20000 in
theorem gX9_findLoud_X9_alongWind : GoodIn wsX9_findLoud (va_wsS RX9 164 yX9_alongWind wsX9_alongWind) := goodIn_app (goodIn_of _ (by decide +kernel)) ggX9_findLoud_X9_alongWind
theorem dX9_findLoud_0 : decode cX9_findLoud 0 = .ok (.aload_n 0, 1) := by decide +kernel
theorem dX9_findLoud_1 : decode cX9_findLoud 1 = .ok (.getfield 32, 3) := by decide +kernel
theorem dX9_findLoud_4 : decode cX9_findLoud 4 = .ok (.iload_n 1, 1) := by decide +kernel
theorem dX9_findLoud_5 : decode cX9_findLoud 5 = .ok (.iaload, 1) := by decide +kernel
theorem dX9_findLoud_6 : decode cX9_findLoud 6 = .ok (.aload_n 0, 1) := by decide +kernel
theorem dX9_findLoud_7 : decode cX9_findLoud 7 = .ok (.getfield 82, 3) := by decide +kernel
theorem dX9_findLoud_10 : decode cX9_findLoud 10 = .ok (.idiv, 1) := by decide +kernel
theorem dX9_findLoud_11 : decode cX9_findLoud 11 = .ok (.istore 4, 2) := by decide +kernel
theorem dX9_findLoud_13 : decode cX9_findLoud 13 = .ok (.aload_n 0, 1) := by decide +kernel
theorem dX9_findLoud_14 : decode cX9_findLoud 14 = .ok (.getfield 32, 3) := by decide +kernel
theorem dX9_findLoud_17 : decode cX9_findLoud 17 = .ok (.iload_n 1, 1) := by decide +kernel
theorem dX9_findLoud_18 : decode cX9_findLoud 18 = .ok (.iaload, 1) := by decide +kernel
theorem dX9_findLoud_19 : decode cX9_findLoud 19 = .ok (.aload_n 0, 1) := by decide +kernel
theorem dX9_findLoud_20 : decode cX9_findLoud 20 = .ok (.getfield 82, 3) := by decide +kernel
theorem dX9_findLoud_23 : decode cX9_findLoud 23 = .ok (.irem, 1) := by decide +kernel
theorem dX9_findLoud_24 : decode cX9_findLoud 24 = .ok (.istore 5, 2) := by decide +kernel
theorem dX9_findLoud_26 : decode cX9_findLoud 26 = .ok (.iload_n 2, 1) := by decide +kernel
theorem dX9_findLoud_27 : decode cX9_findLoud 27 = .ok (.aload_n 0, 1) := by decide +kernel
theorem dX9_findLoud_28 : decode cX9_findLoud 28 = .ok (.getfield 82, 3) := by decide +kernel
theorem dX9_findLoud_31 : decode cX9_findLoud 31 = .ok (.idiv, 1) := by decide +kernel
theorem dX9_findLoud_32 : decode cX9_findLoud 32 = .ok (.iload 4, 2) := by decide +kernel
theorem dX9_findLoud_34 : decode cX9_findLoud 34 = .ok (.isub, 1) := by decide +kernel
theorem dX9_findLoud_35 : decode cX9_findLoud 35 = .ok (.istore 6, 2) := by decide +kernel
theorem dX9_findLoud_37 : decode cX9_findLoud 37 = .ok (.iload_n 2, 1) := by decide +kernel
theorem dX9_findLoud_38 : decode cX9_findLoud 38 = .ok (.aload_n 0, 1) := by decide +kernel
theorem dX9_findLoud_39 : decode cX9_findLoud 39 = .ok (.getfield 82, 3) := by decide +kernel
theorem dX9_findLoud_42 : decode cX9_findLoud 42 = .ok (.irem, 1) := by decide +kernel
theorem dX9_findLoud_43 : decode cX9_findLoud 43 = .ok (.iload 5, 2) := by decide +kernel
theorem dX9_findLoud_45 : decode cX9_findLoud 45 = .ok (.isub, 1) := by decide +kernel
theorem dX9_findLoud_46 : decode cX9_findLoud 46 = .ok (.istore 7, 2) := by decide +kernel
theorem dX9_findLoud_48 : decode cX9_findLoud 48 = .ok (.iload 6, 2) := by decide +kernel
theorem dX9_findLoud_50 : decode cX9_findLoud 50 = .ok (.iload 6, 2) := by decide +kernel
theorem dX9_findLoud_52 : decode cX9_findLoud 52 = .ok (.imul, 1) := by decide +kernel
theorem dX9_findLoud_53 : decode cX9_findLoud 53 = .ok (.iload 7, 2) := by decide +kernel
theorem dX9_findLoud_55 : decode cX9_findLoud 55 = .ok (.iload 7, 2) := by decide +kernel
theorem dX9_findLoud_57 : decode cX9_findLoud 57 = .ok (.imul, 1) := by decide +kernel
theorem dX9_findLoud_58 : decode cX9_findLoud 58 = .ok (.iadd, 1) := by decide +kernel
theorem dX9_findLoud_59 : decode cX9_findLoud 59 = .ok (.istore 8, 2) := by decide +kernel
theorem dX9_findLoud_61 : decode cX9_findLoud 61 = .ok (.aload_n 0, 1) := by decide +kernel
theorem dX9_findLoud_62 : decode cX9_findLoud 62 = .ok (.aload_n 0, 1) := by decide +kernel
theorem dX9_findLoud_63 : decode cX9_findLoud 63 = .ok (.getfield 29, 3) := by decide +kernel
theorem dX9_findLoud_66 : decode cX9_findLoud 66 = .ok (.iload_n 1, 1) := by decide +kernel
theorem dX9_findLoud_67 : decode cX9_findLoud 67 = .ok (.iaload, 1) := by decide +kernel
theorem dX9_findLoud_68 : decode cX9_findLoud 68 = .ok (.ifCond .ne 7, 3) := by decide +kernel
theorem dX9_findLoud_71 : decode cX9_findLoud 71 = .ok (.lconst 1, 1) := by decide +kernel
theorem dX9_findLoud_72 : decode cX9_findLoud 72 = .ok (.goto 6, 3) := by decide +kernel
theorem dX9_findLoud_75 : decode cX9_findLoud 75 = .ok (.ldc2_w 148, 3) := by decide +kernel
theorem dX9_findLoud_78 : decode cX9_findLoud 78 = .ok (.putfield 150, 3) := by decide +kernel
theorem dX9_findLoud_81 : decode cX9_findLoud 81 = .ok (.aload_n 0, 1) := by decide +kernel
theorem dX9_findLoud_82 : decode cX9_findLoud 82 = .ok (.aload_n 0, 1) := by decide +kernel
theorem dX9_findLoud_83 : decode cX9_findLoud 83 = .ok (.getfield 150, 3) := by decide +kernel
theorem dX9_findLoud_86 : decode cX9_findLoud 86 = .ok (.iload 8, 2) := by decide +kernel
theorem dX9_findLoud_88 : decode cX9_findLoud 88 = .ok (.i2l, 1) := by decide +kernel
theorem dX9_findLoud_89 : decode cX9_findLoud 89 = .ok (.ladd, 1) := by decide +kernel
theorem dX9_findLoud_90 : decode cX9_findLoud 90 = .ok (.putfield 154, 3) := by decide +kernel
theorem dX9_findLoud_93 : decode cX9_findLoud 93 = .ok (.iload 6, 2) := by decide +kernel
theorem dX9_findLoud_95 : decode cX9_findLoud 95 = .ok (.invokestatic 157, 3) := by decide +kernel
theorem dX9_findLoud_98 : decode cX9_findLoud 98 = .ok (.iload 7, 2) := by decide +kernel
theorem dX9_findLoud_100 : decode cX9_findLoud 100 = .ok (.invokestatic 157, 3) := by decide +kernel
theorem dX9_findLoud_103 : decode cX9_findLoud 103 = .ok (.if_icmp .le 11, 3) := by decide +kernel
theorem dX9_findLoud_106 : decode cX9_findLoud 106 = .ok (.iload 6, 2) := by decide +kernel
theorem dX9_findLoud_108 : decode cX9_findLoud 108 = .ok (.invokestatic 157, 3) := by decide +kernel
theorem dX9_findLoud_111 : decode cX9_findLoud 111 = .ok (.goto 8, 3) := by decide +kernel
theorem dX9_findLoud_114 : decode cX9_findLoud 114 = .ok (.iload 7, 2) := by decide +kernel
theorem dX9_findLoud_116 : decode cX9_findLoud 116 = .ok (.invokestatic 157, 3) := by decide +kernel
theorem dX9_findLoud_119 : decode cX9_findLoud 119 = .ok (.istore 9, 2) := by decide +kernel
theorem dX9_findLoud_121 : decode cX9_findLoud 121 = .ok (.iconst 1, 1) := by decide +kernel
theorem dX9_findLoud_122 : decode cX9_findLoud 122 = .ok (.istore 10, 2) := by decide +kernel
theorem dX9_findLoud_124 : decode cX9_findLoud 124 = .ok (.iload 10, 2) := by decide +kernel
theorem dX9_findLoud_126 : decode cX9_findLoud 126 = .ok (.iload 9, 2) := by decide +kernel
theorem dX9_findLoud_128 : decode cX9_findLoud 128 = .ok (.if_icmp .ge 142, 3) := by decide +kernel
theorem dX9_findLoud_131 : decode cX9_findLoud 131 = .ok (.aload_n 0, 1) := by decide +kernel
theorem dX9_findLoud_132 : decode cX9_findLoud 132 = .ok (.getfield 82, 3) := by decide +kernel
theorem dX9_findLoud_135 : decode cX9_findLoud 135 = .ok (.iload 4, 2) := by decide +kernel
theorem dX9_findLoud_137 : decode cX9_findLoud 137 = .ok (.iload 6, 2) := by decide +kernel
theorem dX9_findLoud_139 : decode cX9_findLoud 139 = .ok (.iload 10, 2) := by decide +kernel
theorem dX9_findLoud_141 : decode cX9_findLoud 141 = .ok (.iload 9, 2) := by decide +kernel
theorem dX9_findLoud_143 : decode cX9_findLoud 143 = .ok (.invokestatic 160, 3) := by decide +kernel
theorem dX9_findLoud_146 : decode cX9_findLoud 146 = .ok (.iadd, 1) := by decide +kernel
theorem dX9_findLoud_147 : decode cX9_findLoud 147 = .ok (.imul, 1) := by decide +kernel
theorem dX9_findLoud_148 : decode cX9_findLoud 148 = .ok (.iload 5, 2) := by decide +kernel
theorem dX9_findLoud_150 : decode cX9_findLoud 150 = .ok (.iadd, 1) := by decide +kernel
theorem dX9_findLoud_151 : decode cX9_findLoud 151 = .ok (.iload 7, 2) := by decide +kernel
theorem dX9_findLoud_153 : decode cX9_findLoud 153 = .ok (.iload 10, 2) := by decide +kernel
theorem dX9_findLoud_155 : decode cX9_findLoud 155 = .ok (.iload 9, 2) := by decide +kernel
theorem dX9_findLoud_157 : decode cX9_findLoud 157 = .ok (.invokestatic 160, 3) := by decide +kernel
theorem dX9_findLoud_160 : decode cX9_findLoud 160 = .ok (.iadd, 1) := by decide +kernel
theorem dX9_findLoud_161 : decode cX9_findLoud 161 = .ok (.istore 11, 2) := by decide +kernel
theorem dX9_findLoud_163 : decode cX9_findLoud 163 = .ok (.aload_n 0, 1) := by decide +kernel
theorem dX9_findLoud_164 : decode cX9_findLoud 164 = .ok (.getfield 19, 3) := by decide +kernel
theorem dX9_findLoud_167 : decode cX9_findLoud 167 = .ok (.iload 11, 2) := by decide +kernel
theorem dX9_findLoud_169 : decode cX9_findLoud 169 = .ok (.iaload, 1) := by decide +kernel
theorem dX9_findLoud_170 : decode cX9_findLoud 170 = .ok (.aload_n 0, 1) := by decide +kernel
theorem dX9_findLoud_171 : decode cX9_findLoud 171 = .ok (.getfield 19, 3) := by decide +kernel
theorem dX9_findLoud_174 : decode cX9_findLoud 174 = .ok (.aload_n 0, 1) := by decide +kernel
theorem dX9_findLoud_175 : decode cX9_findLoud 175 = .ok (.getfield 32, 3) := by decide +kernel
theorem dX9_findLoud_178 : decode cX9_findLoud 178 = .ok (.iload_n 1, 1) := by decide +kernel
theorem dX9_findLoud_179 : decode cX9_findLoud 179 = .ok (.iaload, 1) := by decide +kernel
theorem dX9_findLoud_180 : decode cX9_findLoud 180 = .ok (.iaload, 1) := by decide +kernel
theorem dX9_findLoud_181 : decode cX9_findLoud 181 = .ok (.if_icmp .le 23, 3) := by decide +kernel
theorem dX9_findLoud_184 : decode cX9_findLoud 184 = .ok (.aload_n 0, 1) := by decide +kernel
theorem dX9_findLoud_185 : decode cX9_findLoud 185 = .ok (.getfield 19, 3) := by decide +kernel
theorem dX9_findLoud_188 : decode cX9_findLoud 188 = .ok (.iload 11, 2) := by decide +kernel
theorem dX9_findLoud_190 : decode cX9_findLoud 190 = .ok (.iaload, 1) := by decide +kernel
theorem dX9_findLoud_191 : decode cX9_findLoud 191 = .ok (.aload_n 0, 1) := by decide +kernel
theorem dX9_findLoud_192 : decode cX9_findLoud 192 = .ok (.getfield 19, 3) := by decide +kernel
theorem dX9_findLoud_195 : decode cX9_findLoud 195 = .ok (.iload_n 2, 1) := by decide +kernel
theorem dX9_findLoud_196 : decode cX9_findLoud 196 = .ok (.iaload, 1) := by decide +kernel
theorem dX9_findLoud_197 : decode cX9_findLoud 197 = .ok (.if_icmp .le 7, 3) := by decide +kernel
theorem dX9_findLoud_200 : decode cX9_findLoud 200 = .ok (.iconst 1, 1) := by decide +kernel
theorem dX9_findLoud_201 : decode cX9_findLoud 201 = .ok (.goto 4, 3) := by decide +kernel
theorem dX9_findLoud_204 : decode cX9_findLoud 204 = .ok (.iconst 0, 1) := by decide +kernel
theorem dX9_findLoud_205 : decode cX9_findLoud 205 = .ok (.istore 12, 2) := by decide +kernel
theorem dX9_findLoud_207 : decode cX9_findLoud 207 = .ok (.aload_n 0, 1) := by decide +kernel
theorem dX9_findLoud_208 : decode cX9_findLoud 208 = .ok (.dup, 1) := by decide +kernel
theorem dX9_findLoud_209 : decode cX9_findLoud 209 = .ok (.getfield 154, 3) := by decide +kernel
theorem dX9_findLoud_212 : decode cX9_findLoud 212 = .ok (.iload 12, 2) := by decide +kernel
theorem dX9_findLoud_214 : decode cX9_findLoud 214 = .ok (.ifCond .eq 19, 3) := by decide +kernel
theorem dX9_findLoud_217 : decode cX9_findLoud 217 = .ok (.aload_n 0, 1) := by decide +kernel
theorem dX9_findLoud_218 : decode cX9_findLoud 218 = .ok (.getfield 29, 3) := by decide +kernel
theorem dX9_findLoud_221 : decode cX9_findLoud 221 = .ok (.iload_n 1, 1) := by decide +kernel
theorem dX9_findLoud_222 : decode cX9_findLoud 222 = .ok (.iaload, 1) := by decide +kernel
theorem dX9_findLoud_223 : decode cX9_findLoud 223 = .ok (.iconst 2, 1) := by decide +kernel
theorem dX9_findLoud_224 : decode cX9_findLoud 224 = .ok (.if_icmp .eq 9, 3) := by decide +kernel
theorem dX9_findLoud_227 : decode cX9_findLoud 227 = .ok (.ldc2_w 148, 3) := by decide +kernel
theorem dX9_findLoud_230 : decode cX9_findLoud 230 = .ok (.goto 4, 3) := by decide +kernel
theorem dX9_findLoud_233 : decode cX9_findLoud 233 = .ok (.lconst 1, 1) := by decide +kernel
theorem dX9_findLoud_234 : decode cX9_findLoud 234 = .ok (.lmul, 1) := by decide +kernel
theorem dX9_findLoud_235 : decode cX9_findLoud 235 = .ok (.putfield 154, 3) := by decide +kernel
theorem dX9_findLoud_238 : decode cX9_findLoud 238 = .ok (.aload_n 0, 1) := by decide +kernel
theorem dX9_findLoud_239 : decode cX9_findLoud 239 = .ok (.dup, 1) := by decide +kernel
theorem dX9_findLoud_240 : decode cX9_findLoud 240 = .ok (.getfield 154, 3) := by decide +kernel
theorem dX9_findLoud_243 : decode cX9_findLoud 243 = .ok (.aload_n 0, 1) := by decide +kernel
theorem dX9_findLoud_244 : decode cX9_findLoud 244 = .ok (.getfield 22, 3) := by decide +kernel
theorem dX9_findLoud_247 : decode cX9_findLoud 247 = .ok (.iload 11, 2) := by decide +kernel
theorem dX9_findLoud_249 : decode cX9_findLoud 249 = .ok (.baload, 1) := by decide +kernel
theorem dX9_findLoud_250 : decode cX9_findLoud 250 = .ok (.ifCond .eq 9, 3) := by decide +kernel
theorem dX9_findLoud_253 : decode cX9_findLoud 253 = .ok (.ldc2_w 148, 3) := by decide +kernel
theorem dX9_findLoud_256 : decode cX9_findLoud 256 = .ok (.goto 4, 3) := by decide +kernel
theorem dX9_findLoud_259 : decode cX9_findLoud 259 = .ok (.lconst 1, 1) := by decide +kernel
theorem dX9_findLoud_260 : decode cX9_findLoud 260 = .ok (.lmul, 1) := by decide +kernel
theorem dX9_findLoud_261 : decode cX9_findLoud 261 = .ok (.putfield 154, 3) := by decide +kernel
theorem dX9_findLoud_264 : decode cX9_findLoud 264 = .ok (.iinc 10 1, 3) := by decide +kernel
theorem dX9_findLoud_267 : decode cX9_findLoud 267 = .ok (.goto (-143), 3) := by decide +kernel
theorem dX9_findLoud_270 : decode cX9_findLoud 270 = .ok (.iload 6, 2) := by decide +kernel
theorem dX9_findLoud_272 : decode cX9_findLoud 272 = .ok (.iload 7, 2) := by decide +kernel
theorem dX9_findLoud_274 : decode cX9_findLoud 274 = .ok (.iload_n 3, 1) := by decide +kernel
theorem dX9_findLoud_275 : decode cX9_findLoud 275 = .ok (.bipush 10, 2) := by decide +kernel
theorem dX9_findLoud_277 : decode cX9_findLoud 277 = .ok (.idiv, 1) := by decide +kernel
theorem dX9_findLoud_278 : decode cX9_findLoud 278 = .ok (.invokestatic 164, 3) := by decide +kernel
theorem dX9_findLoud_281 : decode cX9_findLoud 281 = .ok (.istore 10, 2) := by decide +kernel
theorem dX9_findLoud_283 : decode cX9_findLoud 283 = .ok (.iload 10, 2) := by decide +kernel
theorem dX9_findLoud_285 : decode cX9_findLoud 285 = .ok (.ifCond .le 35, 3) := by decide +kernel
theorem dX9_findLoud_288 : decode cX9_findLoud 288 = .ok (.aload_n 0, 1) := by decide +kernel
theorem dX9_findLoud_289 : decode cX9_findLoud 289 = .ok (.dup, 1) := by decide +kernel
theorem dX9_findLoud_290 : decode cX9_findLoud 290 = .ok (.getfield 150, 3) := by decide +kernel
theorem dX9_findLoud_293 : decode cX9_findLoud 293 = .ok (.bipush 10, 2) := by decide +kernel
theorem dX9_findLoud_295 : decode cX9_findLoud 295 = .ok (.iload_n 3, 1) := by decide +kernel
theorem dX9_findLoud_296 : decode cX9_findLoud 296 = .ok (.bipush 10, 2) := by decide +kernel
theorem dX9_findLoud_298 : decode cX9_findLoud 298 = .ok (.irem, 1) := by decide +kernel
theorem dX9_findLoud_299 : decode cX9_findLoud 299 = .ok (.iadd, 1) := by decide +kernel
theorem dX9_findLoud_300 : decode cX9_findLoud 300 = .ok (.i2l, 1) := by decide +kernel
theorem dX9_findLoud_301 : decode cX9_findLoud 301 = .ok (.lmul, 1) := by decide +kernel
theorem dX9_findLoud_302 : decode cX9_findLoud 302 = .ok (.putfield 150, 3) := by decide +kernel
theorem dX9_findLoud_305 : decode cX9_findLoud 305 = .ok (.aload_n 0, 1) := by decide +kernel
theorem dX9_findLoud_306 : decode cX9_findLoud 306 = .ok (.dup, 1) := by decide +kernel
theorem dX9_findLoud_307 : decode cX9_findLoud 307 = .ok (.getfield 154, 3) := by decide +kernel
theorem dX9_findLoud_310 : decode cX9_findLoud 310 = .ok (.ldc2_w 167, 3) := by decide +kernel
theorem dX9_findLoud_313 : decode cX9_findLoud 313 = .ok (.lmul, 1) := by decide +kernel
theorem dX9_findLoud_314 : decode cX9_findLoud 314 = .ok (.putfield 154, 3) := by decide +kernel
theorem dX9_findLoud_317 : decode cX9_findLoud 317 = .ok (.goto 37, 3) := by decide +kernel
theorem dX9_findLoud_320 : decode cX9_findLoud 320 = .ok (.iload 10, 2) := by decide +kernel
theorem dX9_findLoud_322 : decode cX9_findLoud 322 = .ok (.ifCond .ge 32, 3) := by decide +kernel
theorem dX9_findLoud_325 : decode cX9_findLoud 325 = .ok (.aload_n 0, 1) := by decide +kernel
theorem dX9_findLoud_326 : decode cX9_findLoud 326 = .ok (.dup, 1) := by decide +kernel
theorem dX9_findLoud_327 : decode cX9_findLoud 327 = .ok (.getfield 150, 3) := by decide +kernel
theorem dX9_findLoud_330 : decode cX9_findLoud 330 = .ok (.ldc2_w 167, 3) := by decide +kernel
theorem dX9_findLoud_333 : decode cX9_findLoud 333 = .ok (.lmul, 1) := by decide +kernel
theorem dX9_findLoud_334 : decode cX9_findLoud 334 = .ok (.putfield 150, 3) := by decide +kernel
theorem dX9_findLoud_337 : decode cX9_findLoud 337 = .ok (.aload_n 0, 1) := by decide +kernel
theorem dX9_findLoud_338 : decode cX9_findLoud 338 = .ok (.dup, 1) := by decide +kernel
theorem dX9_findLoud_339 : decode cX9_findLoud 339 = .ok (.getfield 154, 3) := by decide +kernel
theorem dX9_findLoud_342 : decode cX9_findLoud 342 = .ok (.bipush 10, 2) := by decide +kernel
theorem dX9_findLoud_344 : decode cX9_findLoud 344 = .ok (.iload_n 3, 1) := by decide +kernel
theorem dX9_findLoud_345 : decode cX9_findLoud 345 = .ok (.bipush 10, 2) := by decide +kernel
theorem dX9_findLoud_347 : decode cX9_findLoud 347 = .ok (.irem, 1) := by decide +kernel
theorem dX9_findLoud_348 : decode cX9_findLoud 348 = .ok (.iadd, 1) := by decide +kernel
theorem dX9_findLoud_349 : decode cX9_findLoud 349 = .ok (.i2l, 1) := by decide +kernel
theorem dX9_findLoud_350 : decode cX9_findLoud 350 = .ok (.lmul, 1) := by decide +kernel
theorem dX9_findLoud_351 : decode cX9_findLoud 351 = .ok (.putfield 154, 3) := by decide +kernel
theorem dX9_findLoud_354 : decode cX9_findLoud 354 = .ok (.return_, 1) := by decide +kernel
theorem dX9_alongWind_0 : decode cX9_alongWind 0 = .ok (.iload_n 2, 1) := by decide +kernel
theorem dX9_alongWind_1 : decode cX9_alongWind 1 = .ok (.tableswitch 34 0 2 #[27, 30, 32], 27) := by decide +kernel
theorem dX9_alongWind_28 : decode cX9_alongWind 28 = .ok (.iload_n 0, 1) := by decide +kernel
theorem dX9_alongWind_29 : decode cX9_alongWind 29 = .ok (.ineg, 1) := by decide +kernel
theorem dX9_alongWind_30 : decode cX9_alongWind 30 = .ok (.ireturn, 1) := by decide +kernel
theorem dX9_alongWind_31 : decode cX9_alongWind 31 = .ok (.iload_n 1, 1) := by decide +kernel
theorem dX9_alongWind_32 : decode cX9_alongWind 32 = .ok (.ireturn, 1) := by decide +kernel
theorem dX9_alongWind_33 : decode cX9_alongWind 33 = .ok (.iload_n 0, 1) := by decide +kernel
theorem dX9_alongWind_34 : decode cX9_alongWind 34 = .ok (.ireturn, 1) := by decide +kernel
theorem dX9_alongWind_35 : decode cX9_alongWind 35 = .ok (.iload_n 1, 1) := by decide +kernel
theorem dX9_alongWind_36 : decode cX9_alongWind 36 = .ok (.ineg, 1) := by decide +kernel
theorem dX9_alongWind_37 : decode cX9_alongWind 37 = .ok (.ireturn, 1) := by decide +kernel
set_option maxRecDepth 20000 in
theorem ggX9_loud_X9_isBell : GoodIn wsX9_loud wsX9_isBell := goodIn_r _ [9, 10, 49, 50, 51, 52, 53, 54, 55, 56, 57, 58, 59, 60, 61, 62, 63, 64, 65, 66, 67, 68, 69, 70, 71, 72, 73, 74, 75, 76, 77, 78, 79, 80] (by decide +kernel) (by decide +kernel)
set_option maxRecDepth 20000 in
theorem gX9_loud_X9_isBell : GoodIn wsX9_loud (wsV RX9 145 RX9 yX9_isBell wsX9_isBell) := goodIn_app (goodIn_of _ (by decide +kernel)) ggX9_loud_X9_isBell
set_option maxRecDepth 20000 in
theorem ggX9_loud_X9_isCell : GoodIn wsX9_loud wsX9_isCell := goodIn_r _ [14, 15, 16, 17, 8, 18, 19, 20, 49, 50, 51, 52, 53, 54, 55, 56, 57, 58, 59, 60, 61, 62, 63, 64, 65, 66, 67, 68, 69, 70, 71, 72, 73, 74, 75, 76, 77, 78, 79, 80] (by decide +kernel) (by decide +kernel)
set_option maxRecDepth 20000 in
theorem gX9_loud_X9_isCell : GoodIn wsX9_loud (wsV RX9 133 RX9 yX9_isCell wsX9_isCell) := goodIn_app (goodIn_of _ (by decide +kernel)) ggX9_loud_X9_isCell
set_option maxRecDepth 20000 in
theorem ggX9_loud_X9_isWind : GoodIn wsX9_loud wsX9_isWind := goodIn_r _ [23, 24, 25, 8, 26] (by decide +kernel) (by decide +kernel)
set_option maxRecDepth 20000 in
theorem gX9_loud_X9_isWind : GoodIn wsX9_loud (va_wsS RX9 169 yX9_isWind wsX9_isWind) := goodIn_app (goodIn_of _ (by decide +kernel)) ggX9_loud_X9_isWind
set_option maxRecDepth 20000 in
theorem ggX9_loud_X9_within : GoodIn wsX9_loud wsX9_within := goodIn_r _ [26] (by decide +kernel) (by decide +kernel)
set_option maxRecDepth 20000 in
theorem gX9_loud_X9_within : GoodIn wsX9_loud (va_wsS RX9 75 yX9_within wsX9_within) := goodIn_app (goodIn_of _ (by decide +kernel)) ggX9_loud_X9_within
set_option maxRecDepth 20000 in
theorem ggX9_loud_X9_findLoud : GoodIn wsX9_loud wsX9_findLoud := goodIn_r _ [30, 31, 20, 32, 33, 2, 4, 34, 35, 36, 37, 38, 8, 39, 40, 41, 42, 43, 44, 45, 49, 50, 51, 52, 53, 54, 55, 56, 57, 58, 59, 60, 61, 62, 63, 64, 65, 66, 67, 68, 69, 70, 71, 72, 73, 74, 75, 76, 77, 78, 79, 80] (by decide +kernel) (by decide +kernel)
set_option maxRecDepth 20000 in
theorem gX9_loud_X9_findLoud : GoodIn wsX9_loud (wsV RX9 172 RX9 yX9_findLoud wsX9_findLoud) := goodIn_app (goodIn_of _ (by decide +kernel)) ggX9_loud_X9_findLoud
set_option maxRecDepth 20000 in
theorem ggX9_loud_X9_share : GoodIn wsX9_loud wsX9_share := goodIn_r _ [48] (by decide +kernel) (by decide +kernel)
set_option maxRecDepth 20000 in
theorem gX9_loud_X9_share : GoodIn wsX9_loud (va_wsS RX9 176 yX9_share wsX9_share) := goodIn_app (goodIn_of _ (by decide +kernel)) ggX9_loud_X9_share
theorem dX9_loud_0 : decode cX9_loud 0 = .ok (.aload_n 0, 1) := by decide +kernel
theorem dX9_loud_1 : decode cX9_loud 1 = .ok (.iload_n 1, 1) := by decide +kernel
theorem dX9_loud_2 : decode cX9_loud 2 = .ok (.invokevirtual 145, 3) := by decide +kernel
theorem dX9_loud_5 : decode cX9_loud 5 = .ok (.ifCond .eq 28, 3) := by decide +kernel
theorem dX9_loud_8 : decode cX9_loud 8 = .ok (.aload_n 0, 1) := by decide +kernel
theorem dX9_loud_9 : decode cX9_loud 9 = .ok (.iload_n 2, 1) := by decide +kernel
theorem dX9_loud_10 : decode cX9_loud 10 = .ok (.invokevirtual 133, 3) := by decide +kernel
theorem dX9_loud_13 : decode cX9_loud 13 = .ok (.ifCond .eq 20, 3) := by decide +kernel
theorem dX9_loud_16 : decode cX9_loud 16 = .ok (.iload_n 3, 1) := by decide +kernel
theorem dX9_loud_17 : decode cX9_loud 17 = .ok (.invokestatic 169, 3) := by decide +kernel
theorem dX9_loud_20 : decode cX9_loud 20 = .ok (.ifCond .eq 13, 3) := by decide +kernel
theorem dX9_loud_23 : decode cX9_loud 23 = .ok (.iload 4, 2) := by decide +kernel
theorem dX9_loud_25 : decode cX9_loud 25 = .ok (.iconst 0, 1) := by decide +kernel
theorem dX9_loud_26 : decode cX9_loud 26 = .ok (.iconst 1, 1) := by decide +kernel
theorem dX9_loud_27 : decode cX9_loud 27 = .ok (.invokestatic 75, 3) := by decide +kernel
theorem dX9_loud_30 : decode cX9_loud 30 = .ok (.ifCond .ne 7, 3) := by decide +kernel
theorem dX9_loud_33 : decode cX9_loud 33 = .ok (.ldc2_w 73, 3) := by decide +kernel
theorem dX9_loud_36 : decode cX9_loud 36 = .ok (.lreturn, 1) := by decide +kernel
theorem dX9_loud_37 : decode cX9_loud 37 = .ok (.aload_n 0, 1) := by decide +kernel
theorem dX9_loud_38 : decode cX9_loud 38 = .ok (.iload_n 1, 1) := by decide +kernel
theorem dX9_loud_39 : decode cX9_loud 39 = .ok (.iload_n 2, 1) := by decide +kernel
theorem dX9_loud_40 : decode cX9_loud 40 = .ok (.iload_n 3, 1) := by decide +kernel
theorem dX9_loud_41 : decode cX9_loud 41 = .ok (.invokevirtual 172, 3) := by decide +kernel
theorem dX9_loud_44 : decode cX9_loud 44 = .ok (.aload_n 0, 1) := by decide +kernel
theorem dX9_loud_45 : decode cX9_loud 45 = .ok (.getfield 150, 3) := by decide +kernel
theorem dX9_loud_48 : decode cX9_loud 48 = .ok (.aload_n 0, 1) := by decide +kernel
theorem dX9_loud_49 : decode cX9_loud 49 = .ok (.getfield 35, 3) := by decide +kernel
theorem dX9_loud_52 : decode cX9_loud 52 = .ok (.iload_n 1, 1) := by decide +kernel
theorem dX9_loud_53 : decode cX9_loud 53 = .ok (.iaload, 1) := by decide +kernel
theorem dX9_loud_54 : decode cX9_loud 54 = .ok (.i2l, 1) := by decide +kernel
theorem dX9_loud_55 : decode cX9_loud 55 = .ok (.lmul, 1) := by decide +kernel
theorem dX9_loud_56 : decode cX9_loud 56 = .ok (.aload_n 0, 1) := by decide +kernel
theorem dX9_loud_57 : decode cX9_loud 57 = .ok (.getfield 154, 3) := by decide +kernel
theorem dX9_loud_60 : decode cX9_loud 60 = .ok (.iload 4, 2) := by decide +kernel
theorem dX9_loud_62 : decode cX9_loud 62 = .ok (.invokestatic 176, 3) := by decide +kernel
theorem dX9_loud_65 : decode cX9_loud 65 = .ok (.lreturn, 1) := by decide +kernel
set_option maxRecDepth 20000 in
theorem ggX9_layLoud_X9_layOne : GoodIn wsX9_layLoud wsX9_layOne := goodIn_r _ [6, 7, 8, 9, 10, 11, 12, 13, 5, 14, 15, 16, 17, 18, 19, 20, 21, 22, 23, 24, 25, 26, 27, 28, 29, 30, 31, 32, 33, 34, 35, 36, 37, 38, 39, 40, 41, 42, 43, 44, 45, 46, 47, 48, 49, 50, 51, 52, 53, 54, 55, 56, 57, 58, 59, 60, 61, 62, 63, 64, 65, 66, 67] (by decide +kernel) (by decide +kernel)
set_option maxRecDepth 20000 in
theorem gX9_layLoud_X9_layOne : GoodIn wsX9_layLoud (wsV RX9 180 RX9 yX9_layOne wsX9_layOne) := goodIn_app (goodIn_of _ (by decide +kernel)) ggX9_layLoud_X9_layOne
theorem dX9_layLoud_0 : decode cX9_layLoud 0 = .ok (.iconst 0, 1) := by decide +kernel
theorem dX9_layLoud_1 : decode cX9_layLoud 1 = .ok (.istore_n 2, 1) := by decide +kernel
theorem dX9_layLoud_2 : decode cX9_layLoud 2 = .ok (.iload_n 2, 1) := by decide +kernel
theorem dX9_layLoud_3 : decode cX9_layLoud 3 = .ok (.aload_n 0, 1) := by decide +kernel
theorem dX9_layLoud_4 : decode cX9_layLoud 4 = .ok (.getfield 116, 3) := by decide +kernel
theorem dX9_layLoud_7 : decode cX9_layLoud 7 = .ok (.if_icmp .ge 15, 3) := by decide +kernel
theorem dX9_layLoud_10 : decode cX9_layLoud 10 = .ok (.aload_n 0, 1) := by decide +kernel
theorem dX9_layLoud_11 : decode cX9_layLoud 11 = .ok (.iload_n 2, 1) := by decide +kernel
theorem dX9_layLoud_12 : decode cX9_layLoud 12 = .ok (.iload_n 1, 1) := by decide +kernel
theorem dX9_layLoud_13 : decode cX9_layLoud 13 = .ok (.invokevirtual 180, 3) := by decide +kernel
theorem dX9_layLoud_16 : decode cX9_layLoud 16 = .ok (.iinc 2 1, 3) := by decide +kernel
theorem dX9_layLoud_19 : decode cX9_layLoud 19 = .ok (.goto (-17), 3) := by decide +kernel
theorem dX9_layLoud_22 : decode cX9_layLoud 22 = .ok (.return_, 1) := by decide +kernel
set_option maxRecDepth 20000 in
theorem ggX9_layOne_X9_all : GoodIn wsX9_layOne wsX9_all := goodIn_r _ [9, 10, 11, 31, 32, 33, 34, 35, 36, 37, 38, 39, 40, 41, 42, 43, 44, 45, 46, 47, 48, 49, 50, 51, 52, 53, 54, 55, 56, 57, 58, 59, 60, 61, 62] (by decide +kernel) (by decide +kernel)
set_option maxRecDepth 20000 in
theorem gX9_layOne_X9_all : GoodIn wsX9_layOne (wsV RX9 85 RX9 yX9_all wsX9_all) := goodIn_app (goodIn_of _ (by decide +kernel)) ggX9_layOne_X9_all
set_option maxRecDepth 20000 in
theorem ggX9_layOne_X9_findLoud : GoodIn wsX9_layOne wsX9_findLoud := goodIn_r _ [15, 16, 11, 17, 18, 2, 4, 19, 20, 21, 22, 23, 8, 24, 25, 26, 27, 28, 29, 30, 31, 32, 33, 34, 35, 36, 37, 38, 39, 40, 41, 42, 43, 44, 45, 46, 47, 48, 49, 50, 51, 52, 53, 54, 55, 56, 57, 58, 59, 60, 61, 62] (by decide +kernel) (by decide +kernel)
set_option maxRecDepth 20000 in
theorem gX9_layOne_X9_findLoud : GoodIn wsX9_layOne (wsV RX9 172 RX9 yX9_findLoud wsX9_findLoud) := goodIn_app (goodIn_of _ (by decide +kernel)) ggX9_layOne_X9_findLoud
theorem dX9_layOne_0 : decode cX9_layOne 0 = .ok (.iconst 0, 1) := by decide +kernel
theorem dX9_layOne_1 : decode cX9_layOne 1 = .ok (.istore_n 3, 1) := by decide +kernel
theorem dX9_layOne_2 : decode cX9_layOne 2 = .ok (.iload_n 3, 1) := by decide +kernel
theorem dX9_layOne_3 : decode cX9_layOne 3 = .ok (.aload_n 0, 1) := by decide +kernel
theorem dX9_layOne_4 : decode cX9_layOne 4 = .ok (.invokevirtual 85, 3) := by decide +kernel
theorem dX9_layOne_7 : decode cX9_layOne 7 = .ok (.if_icmp .ge 46, 3) := by decide +kernel
theorem dX9_layOne_10 : decode cX9_layOne 10 = .ok (.aload_n 0, 1) := by decide +kernel
theorem dX9_layOne_11 : decode cX9_layOne 11 = .ok (.iload_n 1, 1) := by decide +kernel
theorem dX9_layOne_12 : decode cX9_layOne 12 = .ok (.iload_n 3, 1) := by decide +kernel
theorem dX9_layOne_13 : decode cX9_layOne 13 = .ok (.iload_n 2, 1) := by decide +kernel
theorem dX9_layOne_14 : decode cX9_layOne 14 = .ok (.invokevirtual 172, 3) := by decide +kernel
theorem dX9_layOne_17 : decode cX9_layOne 17 = .ok (.aload_n 0, 1) := by decide +kernel
theorem dX9_layOne_18 : decode cX9_layOne 18 = .ok (.getfield 38, 3) := by decide +kernel
theorem dX9_layOne_21 : decode cX9_layOne 21 = .ok (.bipush 30, 2) := by decide +kernel
theorem dX9_layOne_23 : decode cX9_layOne 23 = .ok (.iload_n 1, 1) := by decide +kernel
theorem dX9_layOne_24 : decode cX9_layOne 24 = .ok (.imul, 1) := by decide +kernel
theorem dX9_layOne_25 : decode cX9_layOne 25 = .ok (.iload_n 3, 1) := by decide +kernel
theorem dX9_layOne_26 : decode cX9_layOne 26 = .ok (.iadd, 1) := by decide +kernel
theorem dX9_layOne_27 : decode cX9_layOne 27 = .ok (.aload_n 0, 1) := by decide +kernel
theorem dX9_layOne_28 : decode cX9_layOne 28 = .ok (.getfield 150, 3) := by decide +kernel
theorem dX9_layOne_31 : decode cX9_layOne 31 = .ok (.lastore, 1) := by decide +kernel
theorem dX9_layOne_32 : decode cX9_layOne 32 = .ok (.aload_n 0, 1) := by decide +kernel
theorem dX9_layOne_33 : decode cX9_layOne 33 = .ok (.getfield 42, 3) := by decide +kernel
theorem dX9_layOne_36 : decode cX9_layOne 36 = .ok (.bipush 30, 2) := by decide +kernel
theorem dX9_layOne_38 : decode cX9_layOne 38 = .ok (.iload_n 1, 1) := by decide +kernel
theorem dX9_layOne_39 : decode cX9_layOne 39 = .ok (.imul, 1) := by decide +kernel
theorem dX9_layOne_40 : decode cX9_layOne 40 = .ok (.iload_n 3, 1) := by decide +kernel
theorem dX9_layOne_41 : decode cX9_layOne 41 = .ok (.iadd, 1) := by decide +kernel
theorem dX9_layOne_42 : decode cX9_layOne 42 = .ok (.aload_n 0, 1) := by decide +kernel
theorem dX9_layOne_43 : decode cX9_layOne 43 = .ok (.getfield 154, 3) := by decide +kernel
theorem dX9_layOne_46 : decode cX9_layOne 46 = .ok (.lastore, 1) := by decide +kernel
theorem dX9_layOne_47 : decode cX9_layOne 47 = .ok (.iinc 3 1, 3) := by decide +kernel
theorem dX9_layOne_50 : decode cX9_layOne 50 = .ok (.goto (-48), 3) := by decide +kernel
theorem dX9_layOne_53 : decode cX9_layOne 53 = .ok (.return_, 1) := by decide +kernel
theorem dX9_isHeard_0 : decode cX9_isHeard 0 = .ok (.ldc2_w 167, 3) := by decide +kernel
theorem dX9_isHeard_3 : decode cX9_isHeard 3 = .ok (.aload_n 0, 1) := by decide +kernel
theorem dX9_isHeard_4 : decode cX9_isHeard 4 = .ok (.getfield 35, 3) := by decide +kernel
theorem dX9_isHeard_7 : decode cX9_isHeard 7 = .ok (.iload_n 1, 1) := by decide +kernel
theorem dX9_isHeard_8 : decode cX9_isHeard 8 = .ok (.iaload, 1) := by decide +kernel
theorem dX9_isHeard_9 : decode cX9_isHeard 9 = .ok (.i2l, 1) := by decide +kernel
theorem dX9_isHeard_10 : decode cX9_isHeard 10 = .ok (.lmul, 1) := by decide +kernel
theorem dX9_isHeard_11 : decode cX9_isHeard 11 = .ok (.aload_n 0, 1) := by decide +kernel
theorem dX9_isHeard_12 : decode cX9_isHeard 12 = .ok (.getfield 38, 3) := by decide +kernel
theorem dX9_isHeard_15 : decode cX9_isHeard 15 = .ok (.bipush 30, 2) := by decide +kernel
theorem dX9_isHeard_17 : decode cX9_isHeard 17 = .ok (.iload_n 1, 1) := by decide +kernel
theorem dX9_isHeard_18 : decode cX9_isHeard 18 = .ok (.imul, 1) := by decide +kernel
theorem dX9_isHeard_19 : decode cX9_isHeard 19 = .ok (.iload_n 2, 1) := by decide +kernel
theorem dX9_isHeard_20 : decode cX9_isHeard 20 = .ok (.iadd, 1) := by decide +kernel
theorem dX9_isHeard_21 : decode cX9_isHeard 21 = .ok (.laload, 1) := by decide +kernel
theorem dX9_isHeard_22 : decode cX9_isHeard 22 = .ok (.lmul, 1) := by decide +kernel
theorem dX9_isHeard_23 : decode cX9_isHeard 23 = .ok (.aload_n 0, 1) := by decide +kernel
theorem dX9_isHeard_24 : decode cX9_isHeard 24 = .ok (.getfield 122, 3) := by decide +kernel
theorem dX9_isHeard_27 : decode cX9_isHeard 27 = .ok (.i2l, 1) := by decide +kernel
theorem dX9_isHeard_28 : decode cX9_isHeard 28 = .ok (.aload_n 0, 1) := by decide +kernel
theorem dX9_isHeard_29 : decode cX9_isHeard 29 = .ok (.getfield 42, 3) := by decide +kernel
theorem dX9_isHeard_32 : decode cX9_isHeard 32 = .ok (.bipush 30, 2) := by decide +kernel
theorem dX9_isHeard_34 : decode cX9_isHeard 34 = .ok (.iload_n 1, 1) := by decide +kernel
theorem dX9_isHeard_35 : decode cX9_isHeard 35 = .ok (.imul, 1) := by decide +kernel
theorem dX9_isHeard_36 : decode cX9_isHeard 36 = .ok (.iload_n 2, 1) := by decide +kernel
theorem dX9_isHeard_37 : decode cX9_isHeard 37 = .ok (.iadd, 1) := by decide +kernel
theorem dX9_isHeard_38 : decode cX9_isHeard 38 = .ok (.laload, 1) := by decide +kernel
theorem dX9_isHeard_39 : decode cX9_isHeard 39 = .ok (.lmul, 1) := by decide +kernel
theorem dX9_isHeard_40 : decode cX9_isHeard 40 = .ok (.lcmp, 1) := by decide +kernel
theorem dX9_isHeard_41 : decode cX9_isHeard 41 = .ok (.ifCond .lt 7, 3) := by decide +kernel
theorem dX9_isHeard_44 : decode cX9_isHeard 44 = .ok (.iconst 1, 1) := by decide +kernel
theorem dX9_isHeard_45 : decode cX9_isHeard 45 = .ok (.goto 4, 3) := by decide +kernel
theorem dX9_isHeard_48 : decode cX9_isHeard 48 = .ok (.iconst 0, 1) := by decide +kernel
theorem dX9_isHeard_49 : decode cX9_isHeard 49 = .ok (.ireturn, 1) := by decide +kernel
theorem dX9_louderBy_0 : decode cX9_louderBy 0 = .ok (.aload_n 0, 1) := by decide +kernel
theorem dX9_louderBy_1 : decode cX9_louderBy 1 = .ok (.getfield 35, 3) := by decide +kernel
theorem dX9_louderBy_4 : decode cX9_louderBy 4 = .ok (.iload_n 1, 1) := by decide +kernel
theorem dX9_louderBy_5 : decode cX9_louderBy 5 = .ok (.iaload, 1) := by decide +kernel
theorem dX9_louderBy_6 : decode cX9_louderBy 6 = .ok (.i2l, 1) := by decide +kernel
theorem dX9_louderBy_7 : decode cX9_louderBy 7 = .ok (.aload_n 0, 1) := by decide +kernel
theorem dX9_louderBy_8 : decode cX9_louderBy 8 = .ok (.getfield 38, 3) := by decide +kernel
theorem dX9_louderBy_11 : decode cX9_louderBy 11 = .ok (.bipush 30, 2) := by decide +kernel
theorem dX9_louderBy_13 : decode cX9_louderBy 13 = .ok (.iload_n 1, 1) := by decide +kernel
theorem dX9_louderBy_14 : decode cX9_louderBy 14 = .ok (.imul, 1) := by decide +kernel
theorem dX9_louderBy_15 : decode cX9_louderBy 15 = .ok (.iload_n 3, 1) := by decide +kernel
theorem dX9_louderBy_16 : decode cX9_louderBy 16 = .ok (.iadd, 1) := by decide +kernel
theorem dX9_louderBy_17 : decode cX9_louderBy 17 = .ok (.laload, 1) := by decide +kernel
theorem dX9_louderBy_18 : decode cX9_louderBy 18 = .ok (.lmul, 1) := by decide +kernel
theorem dX9_louderBy_19 : decode cX9_louderBy 19 = .ok (.aload_n 0, 1) := by decide +kernel
theorem dX9_louderBy_20 : decode cX9_louderBy 20 = .ok (.getfield 42, 3) := by decide +kernel
theorem dX9_louderBy_23 : decode cX9_louderBy 23 = .ok (.bipush 30, 2) := by decide +kernel
theorem dX9_louderBy_25 : decode cX9_louderBy 25 = .ok (.iload_n 2, 1) := by decide +kernel
theorem dX9_louderBy_26 : decode cX9_louderBy 26 = .ok (.imul, 1) := by decide +kernel
theorem dX9_louderBy_27 : decode cX9_louderBy 27 = .ok (.iload_n 3, 1) := by decide +kernel
theorem dX9_louderBy_28 : decode cX9_louderBy 28 = .ok (.iadd, 1) := by decide +kernel
theorem dX9_louderBy_29 : decode cX9_louderBy 29 = .ok (.laload, 1) := by decide +kernel
theorem dX9_louderBy_30 : decode cX9_louderBy 30 = .ok (.lmul, 1) := by decide +kernel
theorem dX9_louderBy_31 : decode cX9_louderBy 31 = .ok (.aload_n 0, 1) := by decide +kernel
theorem dX9_louderBy_32 : decode cX9_louderBy 32 = .ok (.getfield 35, 3) := by decide +kernel
theorem dX9_louderBy_35 : decode cX9_louderBy 35 = .ok (.iload_n 2, 1) := by decide +kernel
theorem dX9_louderBy_36 : decode cX9_louderBy 36 = .ok (.iaload, 1) := by decide +kernel
theorem dX9_louderBy_37 : decode cX9_louderBy 37 = .ok (.i2l, 1) := by decide +kernel
theorem dX9_louderBy_38 : decode cX9_louderBy 38 = .ok (.aload_n 0, 1) := by decide +kernel
theorem dX9_louderBy_39 : decode cX9_louderBy 39 = .ok (.getfield 38, 3) := by decide +kernel
theorem dX9_louderBy_42 : decode cX9_louderBy 42 = .ok (.bipush 30, 2) := by decide +kernel
theorem dX9_louderBy_44 : decode cX9_louderBy 44 = .ok (.iload_n 2, 1) := by decide +kernel
theorem dX9_louderBy_45 : decode cX9_louderBy 45 = .ok (.imul, 1) := by decide +kernel
theorem dX9_louderBy_46 : decode cX9_louderBy 46 = .ok (.iload_n 3, 1) := by decide +kernel
theorem dX9_louderBy_47 : decode cX9_louderBy 47 = .ok (.iadd, 1) := by decide +kernel
theorem dX9_louderBy_48 : decode cX9_louderBy 48 = .ok (.laload, 1) := by decide +kernel
theorem dX9_louderBy_49 : decode cX9_louderBy 49 = .ok (.lmul, 1) := by decide +kernel
theorem dX9_louderBy_50 : decode cX9_louderBy 50 = .ok (.aload_n 0, 1) := by decide +kernel
theorem dX9_louderBy_51 : decode cX9_louderBy 51 = .ok (.getfield 42, 3) := by decide +kernel
theorem dX9_louderBy_54 : decode cX9_louderBy 54 = .ok (.bipush 30, 2) := by decide +kernel
theorem dX9_louderBy_56 : decode cX9_louderBy 56 = .ok (.iload_n 1, 1) := by decide +kernel
theorem dX9_louderBy_57 : decode cX9_louderBy 57 = .ok (.imul, 1) := by decide +kernel
theorem dX9_louderBy_58 : decode cX9_louderBy 58 = .ok (.iload_n 3, 1) := by decide +kernel
theorem dX9_louderBy_59 : decode cX9_louderBy 59 = .ok (.iadd, 1) := by decide +kernel
theorem dX9_louderBy_60 : decode cX9_louderBy 60 = .ok (.laload, 1) := by decide +kernel
theorem dX9_louderBy_61 : decode cX9_louderBy 61 = .ok (.lmul, 1) := by decide +kernel
theorem dX9_louderBy_62 : decode cX9_louderBy 62 = .ok (.lsub, 1) := by decide +kernel
theorem dX9_louderBy_63 : decode cX9_louderBy 63 = .ok (.lreturn, 1) := by decide +kernel
set_option maxRecDepth 20000 in
theorem ggX9_manyLoudest_X9_louderBy : GoodIn wsX9_manyLoudest wsX9_louderBy := goodIn_r _ [7, 8, 9, 10, 11, 12, 13, 14, 15, 16, 17, 18, 19, 20, 21, 22, 23, 24, 25, 26, 27, 28, 29, 30, 31, 32, 33, 34, 35, 36, 37, 38, 39, 40, 41, 42] (by decide +kernel) (by decide +kernel)
set_option maxRecDepth 20000 in
theorem gX9_manyLoudest_X9_louderBy : GoodIn wsX9_manyLoudest (wsV RX9 187 RX9 yX9_louderBy wsX9_louderBy) := goodIn_app (goodIn_of _ (by decide +kernel)) ggX9_manyLoudest_X9_louderBy
theorem dX9_manyLoudest_0 : decode cX9_manyLoudest 0 = .ok (.aload_n 0, 1) := by decide +kernel
theorem dX9_manyLoudest_1 : decode cX9_manyLoudest 1 = .ok (.bipush (-9), 2) := by decide +kernel
theorem dX9_manyLoudest_3 : decode cX9_manyLoudest 3 = .ok (.putfield 184, 3) := by decide +kernel
theorem dX9_manyLoudest_6 : decode cX9_manyLoudest 6 = .ok (.iconst 0, 1) := by decide +kernel
theorem dX9_manyLoudest_7 : decode cX9_manyLoudest 7 = .ok (.istore_n 2, 1) := by decide +kernel
theorem dX9_manyLoudest_8 : decode cX9_manyLoudest 8 = .ok (.iconst 0, 1) := by decide +kernel
theorem dX9_manyLoudest_9 : decode cX9_manyLoudest 9 = .ok (.istore_n 3, 1) := by decide +kernel
theorem dX9_manyLoudest_10 : decode cX9_manyLoudest 10 = .ok (.iload_n 3, 1) := by decide +kernel
theorem dX9_manyLoudest_11 : decode cX9_manyLoudest 11 = .ok (.aload_n 0, 1) := by decide +kernel
theorem dX9_manyLoudest_12 : decode cX9_manyLoudest 12 = .ok (.getfield 116, 3) := by decide +kernel
theorem dX9_manyLoudest_15 : decode cX9_manyLoudest 15 = .ok (.if_icmp .ge 56, 3) := by decide +kernel
theorem dX9_manyLoudest_18 : decode cX9_manyLoudest 18 = .ok (.iload_n 2, 1) := by decide +kernel
theorem dX9_manyLoudest_19 : decode cX9_manyLoudest 19 = .ok (.ifCond .ne 7, 3) := by decide +kernel
theorem dX9_manyLoudest_22 : decode cX9_manyLoudest 22 = .ok (.lconst 1, 1) := by decide +kernel
theorem dX9_manyLoudest_23 : decode cX9_manyLoudest 23 = .ok (.goto 13, 3) := by decide +kernel
theorem dX9_manyLoudest_26 : decode cX9_manyLoudest 26 = .ok (.aload_n 0, 1) := by decide +kernel
theorem dX9_manyLoudest_27 : decode cX9_manyLoudest 27 = .ok (.iload_n 3, 1) := by decide +kernel
theorem dX9_manyLoudest_28 : decode cX9_manyLoudest 28 = .ok (.aload_n 0, 1) := by decide +kernel
theorem dX9_manyLoudest_29 : decode cX9_manyLoudest 29 = .ok (.getfield 184, 3) := by decide +kernel
theorem dX9_manyLoudest_32 : decode cX9_manyLoudest 32 = .ok (.iload_n 1, 1) := by decide +kernel
theorem dX9_manyLoudest_33 : decode cX9_manyLoudest 33 = .ok (.invokevirtual 187, 3) := by decide +kernel
theorem dX9_manyLoudest_36 : decode cX9_manyLoudest 36 = .ok (.lstore 4, 2) := by decide +kernel
theorem dX9_manyLoudest_38 : decode cX9_manyLoudest 38 = .ok (.lload 4, 2) := by decide +kernel
theorem dX9_manyLoudest_40 : decode cX9_manyLoudest 40 = .ok (.lconst 0, 1) := by decide +kernel
theorem dX9_manyLoudest_41 : decode cX9_manyLoudest 41 = .ok (.lcmp, 1) := by decide +kernel
theorem dX9_manyLoudest_42 : decode cX9_manyLoudest 42 = .ok (.ifCond .le 13, 3) := by decide +kernel
theorem dX9_manyLoudest_45 : decode cX9_manyLoudest 45 = .ok (.aload_n 0, 1) := by decide +kernel
theorem dX9_manyLoudest_46 : decode cX9_manyLoudest 46 = .ok (.iload_n 3, 1) := by decide +kernel
theorem dX9_manyLoudest_47 : decode cX9_manyLoudest 47 = .ok (.putfield 184, 3) := by decide +kernel
theorem dX9_manyLoudest_50 : decode cX9_manyLoudest 50 = .ok (.iconst 1, 1) := by decide +kernel
theorem dX9_manyLoudest_51 : decode cX9_manyLoudest 51 = .ok (.istore_n 2, 1) := by decide +kernel
theorem dX9_manyLoudest_52 : decode cX9_manyLoudest 52 = .ok (.goto 13, 3) := by decide +kernel
theorem dX9_manyLoudest_55 : decode cX9_manyLoudest 55 = .ok (.lload 4, 2) := by decide +kernel
theorem dX9_manyLoudest_57 : decode cX9_manyLoudest 57 = .ok (.lconst 0, 1) := by decide +kernel
theorem dX9_manyLoudest_58 : decode cX9_manyLoudest 58 = .ok (.lcmp, 1) := by decide +kernel
theorem dX9_manyLoudest_59 : decode cX9_manyLoudest 59 = .ok (.ifCond .ne 6, 3) := by decide +kernel
theorem dX9_manyLoudest_62 : decode cX9_manyLoudest 62 = .ok (.iinc 2 1, 3) := by decide +kernel
theorem dX9_manyLoudest_65 : decode cX9_manyLoudest 65 = .ok (.iinc 3 1, 3) := by decide +kernel
theorem dX9_manyLoudest_68 : decode cX9_manyLoudest 68 = .ok (.goto (-58), 3) := by decide +kernel
theorem dX9_manyLoudest_71 : decode cX9_manyLoudest 71 = .ok (.iload_n 2, 1) := by decide +kernel
theorem dX9_manyLoudest_72 : decode cX9_manyLoudest 72 = .ok (.ireturn, 1) := by decide +kernel
set_option maxRecDepth 20000 in
theorem ggX9_whoseBy_X9_manyLoudest : GoodIn wsX9_whoseBy wsX9_manyLoudest := goodIn_r _ [6, 1, 7, 8, 9, 10, 5, 11, 12, 13, 14, 21, 22, 23, 24, 25, 26, 27, 28, 29, 30, 31, 32, 33, 34, 35, 36, 37, 38, 39, 40, 41, 42, 43, 44, 45, 46, 47, 48, 49, 50, 51, 52] (by decide +kernel) (by decide +kernel)
set_option maxRecDepth 20000 in
theorem gX9_whoseBy_X9_manyLoudest : GoodIn wsX9_whoseBy (wsV RX9 191 RX9 yX9_manyLoudest wsX9_manyLoudest) := goodIn_app (goodIn_of _ (by decide +kernel)) ggX9_whoseBy_X9_manyLoudest
set_option maxRecDepth 20000 in
theorem ggX9_whoseBy_X9_isHeard : GoodIn wsX9_whoseBy wsX9_isHeard := goodIn_r _ [18, 19, 12, 13, 20, 14, 21, 22, 23, 24, 25, 26, 27, 28, 29, 30, 31, 32, 33, 34, 35, 36, 37, 38, 39, 40, 41, 42, 43, 44, 45, 46, 47, 48, 49, 50, 51, 52] (by decide +kernel) (by decide +kernel)
set_option maxRecDepth 20000 in
theorem gX9_whoseBy_X9_isHeard : GoodIn wsX9_whoseBy (wsV RX9 194 RX9 yX9_isHeard wsX9_isHeard) := goodIn_app (goodIn_of _ (by decide +kernel)) ggX9_whoseBy_X9_isHeard
theorem dX9_whoseBy_0 : decode cX9_whoseBy 0 = .ok (.aload_n 0, 1) := by decide +kernel
theorem dX9_whoseBy_1 : decode cX9_whoseBy 1 = .ok (.iload_n 1, 1) := by decide +kernel
theorem dX9_whoseBy_2 : decode cX9_whoseBy 2 = .ok (.invokevirtual 191, 3) := by decide +kernel
theorem dX9_whoseBy_5 : decode cX9_whoseBy 5 = .ok (.istore_n 2, 1) := by decide +kernel
theorem dX9_whoseBy_6 : decode cX9_whoseBy 6 = .ok (.iload_n 2, 1) := by decide +kernel
theorem dX9_whoseBy_7 : decode cX9_whoseBy 7 = .ok (.ifCond .eq 15, 3) := by decide +kernel
theorem dX9_whoseBy_10 : decode cX9_whoseBy 10 = .ok (.aload_n 0, 1) := by decide +kernel
theorem dX9_whoseBy_11 : decode cX9_whoseBy 11 = .ok (.aload_n 0, 1) := by decide +kernel
theorem dX9_whoseBy_12 : decode cX9_whoseBy 12 = .ok (.getfield 184, 3) := by decide +kernel
theorem dX9_whoseBy_15 : decode cX9_whoseBy 15 = .ok (.iload_n 1, 1) := by decide +kernel
theorem dX9_whoseBy_16 : decode cX9_whoseBy 16 = .ok (.invokevirtual 194, 3) := by decide +kernel
theorem dX9_whoseBy_19 : decode cX9_whoseBy 19 = .ok (.ifCond .ne 6, 3) := by decide +kernel
theorem dX9_whoseBy_22 : decode cX9_whoseBy 22 = .ok (.bipush (-6), 2) := by decide +kernel
theorem dX9_whoseBy_24 : decode cX9_whoseBy 24 = .ok (.ireturn, 1) := by decide +kernel
theorem dX9_whoseBy_25 : decode cX9_whoseBy 25 = .ok (.iload_n 2, 1) := by decide +kernel
theorem dX9_whoseBy_26 : decode cX9_whoseBy 26 = .ok (.iconst 1, 1) := by decide +kernel
theorem dX9_whoseBy_27 : decode cX9_whoseBy 27 = .ok (.if_icmp .le 8, 3) := by decide +kernel
theorem dX9_whoseBy_30 : decode cX9_whoseBy 30 = .ok (.bipush (-5), 2) := by decide +kernel
theorem dX9_whoseBy_32 : decode cX9_whoseBy 32 = .ok (.goto 7, 3) := by decide +kernel
theorem dX9_whoseBy_35 : decode cX9_whoseBy 35 = .ok (.aload_n 0, 1) := by decide +kernel
theorem dX9_whoseBy_36 : decode cX9_whoseBy 36 = .ok (.getfield 184, 3) := by decide +kernel
theorem dX9_whoseBy_39 : decode cX9_whoseBy 39 = .ok (.ireturn, 1) := by decide +kernel
set_option maxRecDepth 20000 in
theorem ggX9_whose_X9_isCell : GoodIn wsX9_whose wsX9_isCell := goodIn_r _ [5, 6, 7, 8, 4, 9, 10, 11, 69, 70, 71, 72, 73, 74, 75, 76, 77, 78, 79, 80, 81, 82, 83, 84, 85, 86, 87, 88, 89, 90, 91, 92, 93, 94, 95, 96, 97, 98, 99, 100] (by decide +kernel) (by decide +kernel)
set_option maxRecDepth 20000 in
theorem gX9_whose_X9_isCell : GoodIn wsX9_whose (wsV RX9 133 RX9 yX9_isCell wsX9_isCell) := goodIn_app (goodIn_of _ (by decide +kernel)) ggX9_whose_X9_isCell
set_option maxRecDepth 20000 in
theorem ggX9_whose_X9_isWind : GoodIn wsX9_whose wsX9_isWind := goodIn_r _ [14, 15, 16, 4, 17] (by decide +kernel) (by decide +kernel)
set_option maxRecDepth 20000 in
theorem gX9_whose_X9_isWind : GoodIn wsX9_whose (va_wsS RX9 169 yX9_isWind wsX9_isWind) := goodIn_app (goodIn_of _ (by decide +kernel)) ggX9_whose_X9_isWind
set_option maxRecDepth 20000 in
theorem ggX9_whose_X9_layLoud : GoodIn wsX9_whose wsX9_layLoud := goodIn_r _ [21, 22, 23, 24, 25, 4, 26, 27, 28, 29, 30, 6, 7, 8, 9, 10, 11, 31, 32, 33, 34, 35, 36, 37, 38, 39, 40, 41, 42, 43, 44, 45, 46, 47, 48, 49, 69, 70, 71, 72, 73, 74, 75, 76, 77, 78, 79, 80, 81, 82, 83, 84, 85, 86, 87, 88, 89, 90, 91, 92, 93, 94, 95, 96, 97, 98, 99, 100] (by decide +kernel) (by decide +kernel)
set_option maxRecDepth 20000 in
theorem gX9_whose_X9_layLoud : GoodIn wsX9_whose (wsV RX9 197 RX9 yX9_layLoud wsX9_layLoud) := goodIn_app (goodIn_of _ (by decide +kernel)) ggX9_whose_X9_layLoud
set_option maxRecDepth 20000 in
theorem ggX9_whose_X9_whoseBy : GoodIn wsX9_whose wsX9_whoseBy := goodIn_r _ [53, 54, 55, 56, 57, 4, 58, 22, 59, 60, 61, 62, 63, 27, 29, 64, 65, 66, 67, 40, 68, 69, 70, 71, 72, 73, 74, 75, 76, 77, 78, 79, 80, 81, 82, 83, 84, 85, 86, 87, 88, 89, 90, 91, 92, 93, 94, 95, 96, 97, 98, 99, 100] (by decide +kernel) (by decide +kernel)
set_option maxRecDepth 20000 in
theorem gX9_whose_X9_whoseBy : GoodIn wsX9_whose (wsV RX9 201 RX9 yX9_whoseBy wsX9_whoseBy) := goodIn_app (goodIn_of _ (by decide +kernel)) ggX9_whose_X9_whoseBy
theorem dX9_whose_0 : decode cX9_whose 0 = .ok (.aload_n 0, 1) := by decide +kernel
theorem dX9_whose_1 : decode cX9_whose 1 = .ok (.iload_n 1, 1) := by decide +kernel
theorem dX9_whose_2 : decode cX9_whose 2 = .ok (.invokevirtual 133, 3) := by decide +kernel
theorem dX9_whose_5 : decode cX9_whose 5 = .ok (.ifCond .ne 5, 3) := by decide +kernel
theorem dX9_whose_8 : decode cX9_whose 8 = .ok (.iconst (-1), 1) := by decide +kernel
theorem dX9_whose_9 : decode cX9_whose 9 = .ok (.ireturn, 1) := by decide +kernel
theorem dX9_whose_10 : decode cX9_whose 10 = .ok (.iload_n 2, 1) := by decide +kernel
theorem dX9_whose_11 : decode cX9_whose 11 = .ok (.invokestatic 169, 3) := by decide +kernel
theorem dX9_whose_14 : decode cX9_whose 14 = .ok (.ifCond .ne 6, 3) := by decide +kernel
theorem dX9_whose_17 : decode cX9_whose 17 = .ok (.bipush (-2), 2) := by decide +kernel
theorem dX9_whose_19 : decode cX9_whose 19 = .ok (.ireturn, 1) := by decide +kernel
theorem dX9_whose_20 : decode cX9_whose 20 = .ok (.aload_n 0, 1) := by decide +kernel
theorem dX9_whose_21 : decode cX9_whose 21 = .ok (.iload_n 2, 1) := by decide +kernel
theorem dX9_whose_22 : decode cX9_whose 22 = .ok (.invokevirtual 197, 3) := by decide +kernel
theorem dX9_whose_25 : decode cX9_whose 25 = .ok (.aload_n 0, 1) := by decide +kernel
theorem dX9_whose_26 : decode cX9_whose 26 = .ok (.iload_n 1, 1) := by decide +kernel
theorem dX9_whose_27 : decode cX9_whose 27 = .ok (.invokevirtual 201, 3) := by decide +kernel
theorem dX9_whose_30 : decode cX9_whose 30 = .ok (.ireturn, 1) := by decide +kernel
set_option maxRecDepth 20000 in
theorem ggX9_reaches_X9_manyLoudest : GoodIn wsX9_reaches wsX9_manyLoudest := goodIn_r _ [6, 1, 7, 8, 9, 10, 5, 11, 12, 13, 14, 21, 22, 23, 24, 25, 26, 27, 28, 29, 30, 31, 32, 33, 34, 35, 36, 37, 38, 39, 40, 41, 42, 43, 44, 45, 46, 47, 48, 49, 50, 51, 52] (by decide +kernel) (by decide +kernel)
set_option maxRecDepth 20000 in
theorem gX9_reaches_X9_manyLoudest : GoodIn wsX9_reaches (wsV RX9 191 RX9 yX9_manyLoudest wsX9_manyLoudest) := goodIn_app (goodIn_of _ (by decide +kernel)) ggX9_reaches_X9_manyLoudest
set_option maxRecDepth 20000 in
theorem ggX9_reaches_X9_isHeard : GoodIn wsX9_reaches wsX9_isHeard := goodIn_r _ [18, 19, 12, 13, 20, 14, 21, 22, 23, 24, 25, 26, 27, 28, 29, 30, 31, 32, 33, 34, 35, 36, 37, 38, 39, 40, 41, 42, 43, 44, 45, 46, 47, 48, 49, 50, 51, 52] (by decide +kernel) (by decide +kernel)
set_option maxRecDepth 20000 in
theorem gX9_reaches_X9_isHeard : GoodIn wsX9_reaches (wsV RX9 194 RX9 yX9_isHeard wsX9_isHeard) := goodIn_app (goodIn_of _ (by decide +kernel)) ggX9_reaches_X9_isHeard
set_option maxRecDepth 20000 in
theorem ggX9_reaches_X9_louderBy : GoodIn wsX9_reaches wsX9_louderBy := goodIn_r _ [11, 12, 13, 14, 21, 22, 23, 24, 25, 26, 27, 28, 29, 30, 31, 32, 33, 34, 35, 36, 37, 38, 39, 40, 41, 42, 43, 44, 45, 46, 47, 48, 49, 50, 51, 52] (by decide +kernel) (by decide +kernel)
set_option maxRecDepth 20000 in
theorem gX9_reaches_X9_louderBy : GoodIn wsX9_reaches (wsV RX9 187 RX9 yX9_louderBy wsX9_louderBy) := goodIn_app (goodIn_of _ (by decide +kernel)) ggX9_reaches_X9_louderBy
theorem dX9_reaches_0 : decode cX9_reaches 0 = .ok (.aload_n 0, 1) := by decide +kernel
theorem dX9_reaches_1 : decode cX9_reaches 1 = .ok (.iload_n 2, 1) := by decide +kernel
theorem dX9_reaches_2 : decode cX9_reaches 2 = .ok (.invokevirtual 191, 3) := by decide +kernel
theorem dX9_reaches_5 : decode cX9_reaches 5 = .ok (.istore_n 3, 1) := by decide +kernel
theorem dX9_reaches_6 : decode cX9_reaches 6 = .ok (.iload_n 3, 1) := by decide +kernel
theorem dX9_reaches_7 : decode cX9_reaches 7 = .ok (.ifCond .le 34, 3) := by decide +kernel
theorem dX9_reaches_10 : decode cX9_reaches 10 = .ok (.aload_n 0, 1) := by decide +kernel
theorem dX9_reaches_11 : decode cX9_reaches 11 = .ok (.aload_n 0, 1) := by decide +kernel
theorem dX9_reaches_12 : decode cX9_reaches 12 = .ok (.getfield 184, 3) := by decide +kernel
theorem dX9_reaches_15 : decode cX9_reaches 15 = .ok (.iload_n 2, 1) := by decide +kernel
theorem dX9_reaches_16 : decode cX9_reaches 16 = .ok (.invokevirtual 194, 3) := by decide +kernel
theorem dX9_reaches_19 : decode cX9_reaches 19 = .ok (.ifCond .eq 22, 3) := by decide +kernel
theorem dX9_reaches_22 : decode cX9_reaches 22 = .ok (.aload_n 0, 1) := by decide +kernel
theorem dX9_reaches_23 : decode cX9_reaches 23 = .ok (.iload_n 1, 1) := by decide +kernel
theorem dX9_reaches_24 : decode cX9_reaches 24 = .ok (.aload_n 0, 1) := by decide +kernel
theorem dX9_reaches_25 : decode cX9_reaches 25 = .ok (.getfield 184, 3) := by decide +kernel
theorem dX9_reaches_28 : decode cX9_reaches 28 = .ok (.iload_n 2, 1) := by decide +kernel
theorem dX9_reaches_29 : decode cX9_reaches 29 = .ok (.invokevirtual 187, 3) := by decide +kernel
theorem dX9_reaches_32 : decode cX9_reaches 32 = .ok (.lconst 0, 1) := by decide +kernel
theorem dX9_reaches_33 : decode cX9_reaches 33 = .ok (.lcmp, 1) := by decide +kernel
theorem dX9_reaches_34 : decode cX9_reaches 34 = .ok (.ifCond .ne 7, 3) := by decide +kernel
theorem dX9_reaches_37 : decode cX9_reaches 37 = .ok (.iconst 1, 1) := by decide +kernel
theorem dX9_reaches_38 : decode cX9_reaches 38 = .ok (.goto 4, 3) := by decide +kernel
theorem dX9_reaches_41 : decode cX9_reaches 41 = .ok (.iconst 0, 1) := by decide +kernel
theorem dX9_reaches_42 : decode cX9_reaches 42 = .ok (.ireturn, 1) := by decide +kernel
set_option maxRecDepth 20000 in
theorem ggX9_reach_X9_isBell : GoodIn wsX9_reach wsX9_isBell := goodIn_r _ [5, 6, 69, 70, 71, 72, 73, 74, 75, 76, 77, 78, 79, 80, 81, 82, 83, 84, 85, 86, 87, 88, 89, 90, 91, 92, 93, 94, 95, 96, 97, 98, 99, 100] (by decide +kernel) (by decide +kernel)
set_option maxRecDepth 20000 in
theorem gX9_reach_X9_isBell : GoodIn wsX9_reach (wsV RX9 145 RX9 yX9_isBell wsX9_isBell) := goodIn_app (goodIn_of _ (by decide +kernel)) ggX9_reach_X9_isBell
set_option maxRecDepth 20000 in
theorem ggX9_reach_X9_isWind : GoodIn wsX9_reach wsX9_isWind := goodIn_r _ [9, 10, 11, 4, 12] (by decide +kernel) (by decide +kernel)
set_option maxRecDepth 20000 in
theorem gX9_reach_X9_isWind : GoodIn wsX9_reach (va_wsS RX9 169 yX9_isWind wsX9_isWind) := goodIn_app (goodIn_of _ (by decide +kernel)) ggX9_reach_X9_isWind
set_option maxRecDepth 20000 in
theorem ggX9_reach_X9_layLoud : GoodIn wsX9_reach wsX9_layLoud := goodIn_r _ [16, 6, 17, 18, 19, 4, 20, 21, 22, 23, 24, 25, 26, 27, 28, 29, 30, 31, 32, 33, 34, 35, 36, 37, 38, 39, 40, 41, 42, 43, 44, 45, 46, 47, 48, 49, 69, 70, 71, 72, 73, 74, 75, 76, 77, 78, 79, 80, 81, 82, 83, 84, 85, 86, 87, 88, 89, 90, 91, 92, 93, 94, 95, 96, 97, 98, 99, 100] (by decide +kernel) (by decide +kernel)
set_option maxRecDepth 20000 in
theorem gX9_reach_X9_layLoud : GoodIn wsX9_reach (wsV RX9 197 RX9 yX9_layLoud wsX9_layLoud) := goodIn_app (goodIn_of _ (by decide +kernel)) ggX9_reach_X9_layLoud
set_option maxRecDepth 20000 in
theorem ggX9_reach_X9_all : GoodIn wsX9_reach wsX9_all := goodIn_r _ [28, 29, 30, 69, 70, 71, 72, 73, 74, 75, 76, 77, 78, 79, 80, 81, 82, 83, 84, 85, 86, 87, 88, 89, 90, 91, 92, 93, 94, 95, 96, 97, 98, 99, 100] (by decide +kernel) (by decide +kernel)
set_option maxRecDepth 20000 in
theorem gX9_reach_X9_all : GoodIn wsX9_reach (wsV RX9 85 RX9 yX9_all wsX9_all) := goodIn_app (goodIn_of _ (by decide +kernel)) ggX9_reach_X9_all
set_option maxRecDepth 20000 in
theorem ggX9_reach_X9_reaches : GoodIn wsX9_reach wsX9_reaches := goodIn_r _ [53, 54, 55, 56, 57, 4, 58, 6, 59, 60, 61, 62, 63, 21, 23, 64, 65, 66, 67, 40, 68, 69, 70, 71, 72, 73, 74, 75, 76, 77, 78, 79, 80, 81, 82, 83, 84, 85, 86, 87, 88, 89, 90, 91, 92, 93, 94, 95, 96, 97, 98, 99, 100] (by decide +kernel) (by decide +kernel)
set_option maxRecDepth 20000 in
theorem gX9_reach_X9_reaches : GoodIn wsX9_reach (wsV RX9 204 RX9 yX9_reaches wsX9_reaches) := goodIn_app (goodIn_of _ (by decide +kernel)) ggX9_reach_X9_reaches
theorem dX9_reach_0 : decode cX9_reach 0 = .ok (.aload_n 0, 1) := by decide +kernel
theorem dX9_reach_1 : decode cX9_reach 1 = .ok (.iload_n 1, 1) := by decide +kernel
theorem dX9_reach_2 : decode cX9_reach 2 = .ok (.invokevirtual 145, 3) := by decide +kernel
theorem dX9_reach_5 : decode cX9_reach 5 = .ok (.ifCond .ne 5, 3) := by decide +kernel
theorem dX9_reach_8 : decode cX9_reach 8 = .ok (.iconst (-1), 1) := by decide +kernel
theorem dX9_reach_9 : decode cX9_reach 9 = .ok (.ireturn, 1) := by decide +kernel
theorem dX9_reach_10 : decode cX9_reach 10 = .ok (.iload_n 2, 1) := by decide +kernel
theorem dX9_reach_11 : decode cX9_reach 11 = .ok (.invokestatic 169, 3) := by decide +kernel
theorem dX9_reach_14 : decode cX9_reach 14 = .ok (.ifCond .ne 6, 3) := by decide +kernel
theorem dX9_reach_17 : decode cX9_reach 17 = .ok (.bipush (-2), 2) := by decide +kernel
theorem dX9_reach_19 : decode cX9_reach 19 = .ok (.ireturn, 1) := by decide +kernel
theorem dX9_reach_20 : decode cX9_reach 20 = .ok (.aload_n 0, 1) := by decide +kernel
theorem dX9_reach_21 : decode cX9_reach 21 = .ok (.iload_n 2, 1) := by decide +kernel
theorem dX9_reach_22 : decode cX9_reach 22 = .ok (.invokevirtual 197, 3) := by decide +kernel
theorem dX9_reach_25 : decode cX9_reach 25 = .ok (.iconst 0, 1) := by decide +kernel
theorem dX9_reach_26 : decode cX9_reach 26 = .ok (.istore_n 3, 1) := by decide +kernel
theorem dX9_reach_27 : decode cX9_reach 27 = .ok (.iconst 0, 1) := by decide +kernel
theorem dX9_reach_28 : decode cX9_reach 28 = .ok (.istore 4, 2) := by decide +kernel
theorem dX9_reach_30 : decode cX9_reach 30 = .ok (.iload 4, 2) := by decide +kernel
theorem dX9_reach_32 : decode cX9_reach 32 = .ok (.aload_n 0, 1) := by decide +kernel
theorem dX9_reach_33 : decode cX9_reach 33 = .ok (.invokevirtual 85, 3) := by decide +kernel
theorem dX9_reach_36 : decode cX9_reach 36 = .ok (.if_icmp .ge 30, 3) := by decide +kernel
theorem dX9_reach_39 : decode cX9_reach 39 = .ok (.iload_n 3, 1) := by decide +kernel
theorem dX9_reach_40 : decode cX9_reach 40 = .ok (.aload_n 0, 1) := by decide +kernel
theorem dX9_reach_41 : decode cX9_reach 41 = .ok (.iload_n 1, 1) := by decide +kernel
theorem dX9_reach_42 : decode cX9_reach 42 = .ok (.iload 4, 2) := by decide +kernel
theorem dX9_reach_44 : decode cX9_reach 44 = .ok (.invokevirtual 204, 3) := by decide +kernel
theorem dX9_reach_47 : decode cX9_reach 47 = .ok (.ifCond .eq 10, 3) := by decide +kernel
theorem dX9_reach_50 : decode cX9_reach 50 = .ok (.iconst 1, 1) := by decide +kernel
theorem dX9_reach_51 : decode cX9_reach 51 = .ok (.iload 4, 2) := by decide +kernel
theorem dX9_reach_53 : decode cX9_reach 53 = .ok (.ishl, 1) := by decide +kernel
theorem dX9_reach_54 : decode cX9_reach 54 = .ok (.goto 4, 3) := by decide +kernel
theorem dX9_reach_57 : decode cX9_reach 57 = .ok (.iconst 0, 1) := by decide +kernel
theorem dX9_reach_58 : decode cX9_reach 58 = .ok (.ior, 1) := by decide +kernel
theorem dX9_reach_59 : decode cX9_reach 59 = .ok (.istore_n 3, 1) := by decide +kernel
theorem dX9_reach_60 : decode cX9_reach 60 = .ok (.iinc 4 1, 3) := by decide +kernel
theorem dX9_reach_63 : decode cX9_reach 63 = .ok (.goto (-33), 3) := by decide +kernel
theorem dX9_reach_66 : decode cX9_reach 66 = .ok (.iload_n 3, 1) := by decide +kernel
theorem dX9_reach_67 : decode cX9_reach 67 = .ok (.ireturn, 1) := by decide +kernel
set_option maxRecDepth 20000 in
theorem ggX9_tithesOf_X9_all : GoodIn wsX9_tithesOf wsX9_all := goodIn_r _ [5, 6, 7, 36, 37, 38, 39, 40, 41, 42, 43, 44, 45, 46, 47, 48, 49, 50, 51, 52, 53, 54, 55, 56, 57, 58, 59, 60, 61, 62, 63, 64, 65, 66, 67] (by decide +kernel) (by decide +kernel)
set_option maxRecDepth 20000 in
theorem gX9_tithesOf_X9_all : GoodIn wsX9_tithesOf (wsV RX9 85 RX9 yX9_all wsX9_all) := goodIn_app (goodIn_of _ (by decide +kernel)) ggX9_tithesOf_X9_all
set_option maxRecDepth 20000 in
theorem ggX9_tithesOf_X9_reaches : GoodIn wsX9_tithesOf wsX9_reaches := goodIn_r _ [11, 12, 13, 14, 15, 4, 16, 17, 18, 19, 20, 21, 22, 23, 24, 25, 26, 27, 28, 29, 30, 36, 37, 38, 39, 40, 41, 42, 43, 44, 45, 46, 47, 48, 49, 50, 51, 52, 53, 54, 55, 56, 57, 58, 59, 60, 61, 62, 63, 64, 65, 66, 67] (by decide +kernel) (by decide +kernel)
set_option maxRecDepth 20000 in
theorem gX9_tithesOf_X9_reaches : GoodIn wsX9_tithesOf (wsV RX9 204 RX9 yX9_reaches wsX9_reaches) := goodIn_app (goodIn_of _ (by decide +kernel)) ggX9_tithesOf_X9_reaches
set_option maxRecDepth 20000 in
theorem ggX9_tithesOf_X9_tithe : GoodIn wsX9_tithesOf wsX9_tithe := goodIn_r _ [34, 35, 36, 37, 38, 39, 40, 41, 42, 43, 44, 45, 46, 47, 48, 49, 50, 51, 52, 53, 54, 55, 56, 57, 58, 59, 60, 61, 62, 63, 64, 65, 66, 67] (by decide +kernel) (by decide +kernel)
set_option maxRecDepth 20000 in
theorem gX9_tithesOf_X9_tithe : GoodIn wsX9_tithesOf (wsV RX9 136 RX9 yX9_tithe wsX9_tithe) := goodIn_app (goodIn_of _ (by decide +kernel)) ggX9_tithesOf_X9_tithe
set_option maxRecDepth 20000 in
theorem ggX9_tithesOf_X9_manyLoudest : GoodIn wsX9_tithesOf wsX9_manyLoudest := goodIn_r _ [16, 12, 17, 18, 19, 20, 4, 21, 22, 23, 24, 36, 37, 38, 39, 40, 41, 42, 43, 44, 45, 46, 47, 48, 49, 50, 51, 52, 53, 54, 55, 56, 57, 58, 59, 60, 61, 62, 63, 64, 65, 66, 67] (by decide +kernel) (by decide +kernel)
set_option maxRecDepth 20000 in
theorem gX9_tithesOf_X9_manyLoudest : GoodIn wsX9_tithesOf (wsV RX9 191 RX9 yX9_manyLoudest wsX9_manyLoudest) := goodIn_app (goodIn_of _ (by decide +kernel)) ggX9_tithesOf_X9_manyLoudest
theorem dX9_tithesOf_0 : decode cX9_tithesOf 0 = .ok (.lconst 0, 1) := by decide +kernel
theorem dX9_tithesOf_1 : decode cX9_tithesOf 1 = .ok (.lstore_n 2, 1) := by decide +kernel
theorem dX9_tithesOf_2 : decode cX9_tithesOf 2 = .ok (.iconst 0, 1) := by decide +kernel
theorem dX9_tithesOf_3 : decode cX9_tithesOf 3 = .ok (.istore 4, 2) := by decide +kernel
theorem dX9_tithesOf_5 : decode cX9_tithesOf 5 = .ok (.iload 4, 2) := by decide +kernel
theorem dX9_tithesOf_7 : decode cX9_tithesOf 7 = .ok (.aload_n 0, 1) := by decide +kernel
theorem dX9_tithesOf_8 : decode cX9_tithesOf 8 = .ok (.invokevirtual 85, 3) := by decide +kernel
theorem dX9_tithesOf_11 : decode cX9_tithesOf 11 = .ok (.if_icmp .ge 39, 3) := by decide +kernel
theorem dX9_tithesOf_14 : decode cX9_tithesOf 14 = .ok (.aload_n 0, 1) := by decide +kernel
theorem dX9_tithesOf_15 : decode cX9_tithesOf 15 = .ok (.iload_n 1, 1) := by decide +kernel
theorem dX9_tithesOf_16 : decode cX9_tithesOf 16 = .ok (.iload 4, 2) := by decide +kernel
theorem dX9_tithesOf_18 : decode cX9_tithesOf 18 = .ok (.invokevirtual 204, 3) := by decide +kernel
theorem dX9_tithesOf_21 : decode cX9_tithesOf 21 = .ok (.ifCond .eq 23, 3) := by decide +kernel
theorem dX9_tithesOf_24 : decode cX9_tithesOf 24 = .ok (.lload_n 2, 1) := by decide +kernel
theorem dX9_tithesOf_25 : decode cX9_tithesOf 25 = .ok (.bipush 60, 2) := by decide +kernel
theorem dX9_tithesOf_27 : decode cX9_tithesOf 27 = .ok (.aload_n 0, 1) := by decide +kernel
theorem dX9_tithesOf_28 : decode cX9_tithesOf 28 = .ok (.iload 4, 2) := by decide +kernel
theorem dX9_tithesOf_30 : decode cX9_tithesOf 30 = .ok (.invokevirtual 136, 3) := by decide +kernel
theorem dX9_tithesOf_33 : decode cX9_tithesOf 33 = .ok (.imul, 1) := by decide +kernel
theorem dX9_tithesOf_34 : decode cX9_tithesOf 34 = .ok (.aload_n 0, 1) := by decide +kernel
theorem dX9_tithesOf_35 : decode cX9_tithesOf 35 = .ok (.iload 4, 2) := by decide +kernel
theorem dX9_tithesOf_37 : decode cX9_tithesOf 37 = .ok (.invokevirtual 191, 3) := by decide +kernel
theorem dX9_tithesOf_40 : decode cX9_tithesOf 40 = .ok (.idiv, 1) := by decide +kernel
theorem dX9_tithesOf_41 : decode cX9_tithesOf 41 = .ok (.i2l, 1) := by decide +kernel
theorem dX9_tithesOf_42 : decode cX9_tithesOf 42 = .ok (.ladd, 1) := by decide +kernel
theorem dX9_tithesOf_43 : decode cX9_tithesOf 43 = .ok (.lstore_n 2, 1) := by decide +kernel
theorem dX9_tithesOf_44 : decode cX9_tithesOf 44 = .ok (.iinc 4 1, 3) := by decide +kernel
theorem dX9_tithesOf_47 : decode cX9_tithesOf 47 = .ok (.goto (-42), 3) := by decide +kernel
theorem dX9_tithesOf_50 : decode cX9_tithesOf 50 = .ok (.lload_n 2, 1) := by decide +kernel
theorem dX9_tithesOf_51 : decode cX9_tithesOf 51 = .ok (.lreturn, 1) := by decide +kernel
set_option maxRecDepth 20000 in
theorem ggX9_tithes_X9_isBell : GoodIn wsX9_tithes wsX9_isBell := goodIn_r _ [9, 10, 100, 101, 102, 103, 104, 105, 106, 107, 108, 109, 110, 111, 112, 113, 114, 115, 116, 117, 118, 119, 120, 121, 122, 123, 124, 125, 126, 127, 128, 129, 130, 131] (by decide +kernel) (by decide +kernel)
set_option maxRecDepth 20000 in
theorem gX9_tithes_X9_isBell : GoodIn wsX9_tithes (wsV RX9 145 RX9 yX9_isBell wsX9_isBell) := goodIn_app (goodIn_of _ (by decide +kernel)) ggX9_tithes_X9_isBell
set_option maxRecDepth 20000 in
theorem ggX9_tithes_X9_isSheet : GoodIn wsX9_tithes wsX9_isSheet := goodIn_r _ [13, 14, 15, 8, 16] (by decide +kernel) (by decide +kernel)
set_option maxRecDepth 20000 in
theorem gX9_tithes_X9_isSheet : GoodIn wsX9_tithes (va_wsS RX9 92 yX9_isSheet wsX9_isSheet) := goodIn_app (goodIn_of _ (by decide +kernel)) ggX9_tithes_X9_isSheet
set_option maxRecDepth 20000 in
theorem ggX9_tithes_X9_isSort : GoodIn wsX9_tithes wsX9_isSort := goodIn_r _ [19, 14, 15, 8, 16] (by decide +kernel) (by decide +kernel)
set_option maxRecDepth 20000 in
theorem gX9_tithes_X9_isSort : GoodIn wsX9_tithes (va_wsS RX9 96 yX9_isSort wsX9_isSort) := goodIn_app (goodIn_of _ (by decide +kernel)) ggX9_tithes_X9_isSort
set_option maxRecDepth 20000 in
theorem ggX9_tithes_X9_against : GoodIn wsX9_tithes wsX9_against := goodIn_r _ [23, 24, 25, 100, 101, 102, 103, 104, 105, 106, 107, 108, 109, 110, 111, 112, 113, 114, 115, 116, 117, 118, 119, 120, 121, 122, 123, 124, 125, 126, 127, 128, 129, 130, 131] (by decide +kernel) (by decide +kernel)
set_option maxRecDepth 20000 in
theorem gX9_tithes_X9_against : GoodIn wsX9_tithes (wsV RX9 99 RX9 yX9_against wsX9_against) := goodIn_app (goodIn_of _ (by decide +kernel)) ggX9_tithes_X9_against
set_option maxRecDepth 20000 in
theorem ggX9_tithes_X9_lost : GoodIn wsX9_tithes wsX9_lost := goodIn_r _ [29, 1, 2, 100, 101, 102, 103, 104, 105, 106, 107, 108, 109, 110, 111, 112, 113, 114, 115, 116, 117, 118, 119, 120, 121, 122, 123, 124, 125, 126, 127, 128, 129, 130, 131] (by decide +kernel) (by decide +kernel)
set_option maxRecDepth 20000 in
theorem gX9_tithes_X9_lost : GoodIn wsX9_tithes (wsV RX9 207 RX9 yX9_lost wsX9_lost) := goodIn_app (goodIn_of _ (by decide +kernel)) ggX9_tithes_X9_lost
set_option maxRecDepth 20000 in
theorem ggX9_tithes_X9_isWind : GoodIn wsX9_tithes wsX9_isWind := goodIn_r _ [32, 14, 15, 8, 16] (by decide +kernel) (by decide +kernel)
set_option maxRecDepth 20000 in
theorem gX9_tithes_X9_isWind : GoodIn wsX9_tithes (va_wsS RX9 169 yX9_isWind wsX9_isWind) := goodIn_app (goodIn_of _ (by decide +kernel)) ggX9_tithes_X9_isWind
set_option maxRecDepth 20000 in
theorem ggX9_tithes_X9_within : GoodIn wsX9_tithes wsX9_within := goodIn_r _ [16] (by decide +kernel) (by decide +kernel)
set_option maxRecDepth 20000 in
theorem gX9_tithes_X9_within : GoodIn wsX9_tithes (va_wsS RX9 75 yX9_within wsX9_within) := goodIn_app (goodIn_of _ (by decide +kernel)) ggX9_tithes_X9_within
set_option maxRecDepth 20000 in
theorem ggX9_tithes_X9_layLoud : GoodIn wsX9_tithes wsX9_layLoud := goodIn_r _ [36, 10, 37, 38, 39, 8, 40, 41, 42, 43, 44, 45, 46, 47, 48, 49, 50, 51, 52, 53, 54, 55, 56, 57, 58, 59, 60, 61, 62, 63, 64, 65, 66, 67, 68, 69, 100, 101, 102, 103, 104, 105, 106, 107, 108, 109, 110, 111, 112, 113, 114, 115, 116, 117, 118, 119, 120, 121, 122, 123, 124, 125, 126, 127, 128, 129, 130, 131] (by decide +kernel) (by decide +kernel)
set_option maxRecDepth 20000 in
theorem gX9_tithes_X9_layLoud : GoodIn wsX9_tithes (wsV RX9 197 RX9 yX9_layLoud wsX9_layLoud) := goodIn_app (goodIn_of _ (by decide +kernel)) ggX9_tithes_X9_layLoud
set_option maxRecDepth 20000 in
theorem ggX9_tithes_X9_tithesOf : GoodIn wsX9_tithes wsX9_tithesOf := goodIn_r _ [73, 45, 46, 47, 8, 48, 49, 50, 74, 75, 76, 77, 78, 79, 80, 81, 82, 10, 83, 84, 85, 86, 87, 41, 43, 88, 89, 90, 91, 60, 92, 93, 94, 95, 96, 58, 100, 101, 102, 103, 104, 105, 106, 107, 108, 109, 110, 111, 112, 113, 114, 115, 116, 117, 118, 119, 120, 121, 122, 123, 124, 125, 126, 127, 128, 129, 130, 131] (by decide +kernel) (by decide +kernel)
set_option maxRecDepth 20000 in
theorem gX9_tithes_X9_tithesOf : GoodIn wsX9_tithes (wsV RX9 211 RX9 yX9_tithesOf wsX9_tithesOf) := goodIn_app (goodIn_of _ (by decide +kernel)) ggX9_tithes_X9_tithesOf
set_option maxRecDepth 20000 in
theorem ggX9_tithes_X9_share : GoodIn wsX9_tithes wsX9_share := goodIn_r _ [99] (by decide +kernel) (by decide +kernel)
set_option maxRecDepth 20000 in
theorem gX9_tithes_X9_share : GoodIn wsX9_tithes (va_wsS RX9 176 yX9_share wsX9_share) := goodIn_app (goodIn_of _ (by decide +kernel)) ggX9_tithes_X9_share
theorem dX9_tithes_0 : decode cX9_tithes 0 = .ok (.aload_n 0, 1) := by decide +kernel
theorem dX9_tithes_1 : decode cX9_tithes 1 = .ok (.iconst 0, 1) := by decide +kernel
theorem dX9_tithes_2 : decode cX9_tithes 2 = .ok (.putfield 69, 3) := by decide +kernel
theorem dX9_tithes_5 : decode cX9_tithes 5 = .ok (.aload_n 0, 1) := by decide +kernel
theorem dX9_tithes_6 : decode cX9_tithes 6 = .ok (.iload_n 1, 1) := by decide +kernel
theorem dX9_tithes_7 : decode cX9_tithes 7 = .ok (.invokevirtual 145, 3) := by decide +kernel
theorem dX9_tithes_10 : decode cX9_tithes 10 = .ok (.ifCond .eq 17, 3) := by decide +kernel
theorem dX9_tithes_13 : decode cX9_tithes 13 = .ok (.iload_n 2, 1) := by decide +kernel
theorem dX9_tithes_14 : decode cX9_tithes 14 = .ok (.invokestatic 92, 3) := by decide +kernel
theorem dX9_tithes_17 : decode cX9_tithes 17 = .ok (.ifCond .eq 10, 3) := by decide +kernel
theorem dX9_tithes_20 : decode cX9_tithes 20 = .ok (.iload_n 3, 1) := by decide +kernel
theorem dX9_tithes_21 : decode cX9_tithes 21 = .ok (.invokestatic 96, 3) := by decide +kernel
theorem dX9_tithes_24 : decode cX9_tithes 24 = .ok (.ifCond .ne 7, 3) := by decide +kernel
theorem dX9_tithes_27 : decode cX9_tithes 27 = .ok (.ldc2_w 73, 3) := by decide +kernel
theorem dX9_tithes_30 : decode cX9_tithes 30 = .ok (.lreturn, 1) := by decide +kernel
theorem dX9_tithes_31 : decode cX9_tithes 31 = .ok (.aload_n 0, 1) := by decide +kernel
theorem dX9_tithes_32 : decode cX9_tithes 32 = .ok (.iload_n 2, 1) := by decide +kernel
theorem dX9_tithes_33 : decode cX9_tithes 33 = .ok (.iload_n 3, 1) := by decide +kernel
theorem dX9_tithes_34 : decode cX9_tithes 34 = .ok (.iload 4, 2) := by decide +kernel
theorem dX9_tithes_36 : decode cX9_tithes 36 = .ok (.iload 5, 2) := by decide +kernel
theorem dX9_tithes_38 : decode cX9_tithes 38 = .ok (.invokevirtual 99, 3) := by decide +kernel
theorem dX9_tithes_41 : decode cX9_tithes 41 = .ok (.istore 7, 2) := by decide +kernel
theorem dX9_tithes_43 : decode cX9_tithes 43 = .ok (.iload 7, 2) := by decide +kernel
theorem dX9_tithes_45 : decode cX9_tithes 45 = .ok (.ifCond .eq 10, 3) := by decide +kernel
theorem dX9_tithes_48 : decode cX9_tithes 48 = .ok (.aload_n 0, 1) := by decide +kernel
theorem dX9_tithes_49 : decode cX9_tithes 49 = .ok (.iload 7, 2) := by decide +kernel
theorem dX9_tithes_51 : decode cX9_tithes 51 = .ok (.invokevirtual 207, 3) := by decide +kernel
theorem dX9_tithes_54 : decode cX9_tithes 54 = .ok (.lreturn, 1) := by decide +kernel
theorem dX9_tithes_55 : decode cX9_tithes 55 = .ok (.bipush 60, 2) := by decide +kernel
theorem dX9_tithes_57 : decode cX9_tithes 57 = .ok (.iload_n 2, 1) := by decide +kernel
theorem dX9_tithes_58 : decode cX9_tithes 58 = .ok (.imul, 1) := by decide +kernel
theorem dX9_tithes_59 : decode cX9_tithes 59 = .ok (.iload 4, 2) := by decide +kernel
theorem dX9_tithes_61 : decode cX9_tithes 61 = .ok (.iadd, 1) := by decide +kernel
theorem dX9_tithes_62 : decode cX9_tithes 62 = .ok (.istore 8, 2) := by decide +kernel
theorem dX9_tithes_64 : decode cX9_tithes 64 = .ok (.iconst 0, 1) := by decide +kernel
theorem dX9_tithes_65 : decode cX9_tithes 65 = .ok (.istore 9, 2) := by decide +kernel
theorem dX9_tithes_67 : decode cX9_tithes 67 = .ok (.iload 9, 2) := by decide +kernel
theorem dX9_tithes_69 : decode cX9_tithes 69 = .ok (.iload 5, 2) := by decide +kernel
theorem dX9_tithes_71 : decode cX9_tithes 71 = .ok (.if_icmp .ge 29, 3) := by decide +kernel
theorem dX9_tithes_74 : decode cX9_tithes 74 = .ok (.aload_n 0, 1) := by decide +kernel
theorem dX9_tithes_75 : decode cX9_tithes 75 = .ok (.getfield 16, 3) := by decide +kernel
theorem dX9_tithes_78 : decode cX9_tithes 78 = .ok (.iload 8, 2) := by decide +kernel
theorem dX9_tithes_80 : decode cX9_tithes 80 = .ok (.iload 9, 2) := by decide +kernel
theorem dX9_tithes_82 : decode cX9_tithes 82 = .ok (.iadd, 1) := by decide +kernel
theorem dX9_tithes_83 : decode cX9_tithes 83 = .ok (.iaload, 1) := by decide +kernel
theorem dX9_tithes_84 : decode cX9_tithes 84 = .ok (.invokestatic 169, 3) := by decide +kernel
theorem dX9_tithes_87 : decode cX9_tithes 87 = .ok (.ifCond .ne 7, 3) := by decide +kernel
theorem dX9_tithes_90 : decode cX9_tithes 90 = .ok (.ldc2_w 73, 3) := by decide +kernel
theorem dX9_tithes_93 : decode cX9_tithes 93 = .ok (.lreturn, 1) := by decide +kernel
theorem dX9_tithes_94 : decode cX9_tithes 94 = .ok (.iinc 9 1, 3) := by decide +kernel
theorem dX9_tithes_97 : decode cX9_tithes 97 = .ok (.goto (-30), 3) := by decide +kernel
theorem dX9_tithes_100 : decode cX9_tithes 100 = .ok (.iload 6, 2) := by decide +kernel
theorem dX9_tithes_102 : decode cX9_tithes 102 = .ok (.iconst 0, 1) := by decide +kernel
theorem dX9_tithes_103 : decode cX9_tithes 103 = .ok (.iconst 1, 1) := by decide +kernel
theorem dX9_tithes_104 : decode cX9_tithes 104 = .ok (.invokestatic 75, 3) := by decide +kernel
theorem dX9_tithes_107 : decode cX9_tithes 107 = .ok (.ifCond .ne 7, 3) := by decide +kernel
theorem dX9_tithes_110 : decode cX9_tithes 110 = .ok (.ldc2_w 73, 3) := by decide +kernel
theorem dX9_tithes_113 : decode cX9_tithes 113 = .ok (.lreturn, 1) := by decide +kernel
theorem dX9_tithes_114 : decode cX9_tithes 114 = .ok (.lconst 0, 1) := by decide +kernel
theorem dX9_tithes_115 : decode cX9_tithes 115 = .ok (.lstore 9, 2) := by decide +kernel
theorem dX9_tithes_117 : decode cX9_tithes 117 = .ok (.iconst 0, 1) := by decide +kernel
theorem dX9_tithes_118 : decode cX9_tithes 118 = .ok (.istore 11, 2) := by decide +kernel
theorem dX9_tithes_120 : decode cX9_tithes 120 = .ok (.iload 11, 2) := by decide +kernel
theorem dX9_tithes_122 : decode cX9_tithes 122 = .ok (.iload 5, 2) := by decide +kernel
theorem dX9_tithes_124 : decode cX9_tithes 124 = .ok (.if_icmp .ge 33, 3) := by decide +kernel
theorem dX9_tithes_127 : decode cX9_tithes 127 = .ok (.aload_n 0, 1) := by decide +kernel
theorem dX9_tithes_128 : decode cX9_tithes 128 = .ok (.aload_n 0, 1) := by decide +kernel
theorem dX9_tithes_129 : decode cX9_tithes 129 = .ok (.getfield 16, 3) := by decide +kernel
theorem dX9_tithes_132 : decode cX9_tithes 132 = .ok (.iload 8, 2) := by decide +kernel
theorem dX9_tithes_134 : decode cX9_tithes 134 = .ok (.iload 11, 2) := by decide +kernel
theorem dX9_tithes_136 : decode cX9_tithes 136 = .ok (.iadd, 1) := by decide +kernel
theorem dX9_tithes_137 : decode cX9_tithes 137 = .ok (.iaload, 1) := by decide +kernel
theorem dX9_tithes_138 : decode cX9_tithes 138 = .ok (.invokevirtual 197, 3) := by decide +kernel
theorem dX9_tithes_141 : decode cX9_tithes 141 = .ok (.lload 9, 2) := by decide +kernel
theorem dX9_tithes_143 : decode cX9_tithes 143 = .ok (.aload_n 0, 1) := by decide +kernel
theorem dX9_tithes_144 : decode cX9_tithes 144 = .ok (.iload_n 1, 1) := by decide +kernel
theorem dX9_tithes_145 : decode cX9_tithes 145 = .ok (.invokevirtual 211, 3) := by decide +kernel
theorem dX9_tithes_148 : decode cX9_tithes 148 = .ok (.ladd, 1) := by decide +kernel
theorem dX9_tithes_149 : decode cX9_tithes 149 = .ok (.lstore 9, 2) := by decide +kernel
theorem dX9_tithes_151 : decode cX9_tithes 151 = .ok (.iinc 11 1, 3) := by decide +kernel
theorem dX9_tithes_154 : decode cX9_tithes 154 = .ok (.goto (-34), 3) := by decide +kernel
theorem dX9_tithes_157 : decode cX9_tithes 157 = .ok (.lload 9, 2) := by decide +kernel
theorem dX9_tithes_159 : decode cX9_tithes 159 = .ok (.ldc2_w 214, 3) := by decide +kernel
theorem dX9_tithes_162 : decode cX9_tithes 162 = .ok (.iload 6, 2) := by decide +kernel
theorem dX9_tithes_164 : decode cX9_tithes 164 = .ok (.invokestatic 176, 3) := by decide +kernel
theorem dX9_tithes_167 : decode cX9_tithes 167 = .ok (.lreturn, 1) := by decide +kernel
set_option maxRecDepth 20000 in
theorem ggX9_winsBy_X9_whoseBy : GoodIn wsX9_winsBy wsX9_whoseBy := goodIn_r _ [6, 7, 8, 9, 10, 5, 11, 12, 13, 14, 15, 16, 1, 17, 18, 19, 20, 21, 22, 23, 24, 25, 26, 27, 28, 29, 30, 31, 32, 33, 34, 35, 36, 37, 38, 39, 40, 41, 42, 43, 44, 45, 46, 47, 48, 49, 50, 51, 52, 53, 54, 55, 56] (by decide +kernel) (by decide +kernel)
set_option maxRecDepth 20000 in
theorem gX9_winsBy_X9_whoseBy : GoodIn wsX9_winsBy (wsV RX9 201 RX9 yX9_whoseBy wsX9_whoseBy) := goodIn_app (goodIn_of _ (by decide +kernel)) ggX9_winsBy_X9_whoseBy
theorem dX9_winsBy_0 : decode cX9_winsBy 0 = .ok (.aload_n 0, 1) := by decide +kernel
theorem dX9_winsBy_1 : decode cX9_winsBy 1 = .ok (.getfield 35, 3) := by decide +kernel
theorem dX9_winsBy_4 : decode cX9_winsBy 4 = .ok (.iload_n 1, 1) := by decide +kernel
theorem dX9_winsBy_5 : decode cX9_winsBy 5 = .ok (.iaload, 1) := by decide +kernel
theorem dX9_winsBy_6 : decode cX9_winsBy 6 = .ok (.istore_n 3, 1) := by decide +kernel
theorem dX9_winsBy_7 : decode cX9_winsBy 7 = .ok (.bipush (-9), 2) := by decide +kernel
theorem dX9_winsBy_9 : decode cX9_winsBy 9 = .ok (.istore 4, 2) := by decide +kernel
theorem dX9_winsBy_11 : decode cX9_winsBy 11 = .ok (.iconst 1, 1) := by decide +kernel
theorem dX9_winsBy_12 : decode cX9_winsBy 12 = .ok (.istore 5, 2) := by decide +kernel
theorem dX9_winsBy_14 : decode cX9_winsBy 14 = .ok (.iload 5, 2) := by decide +kernel
theorem dX9_winsBy_16 : decode cX9_winsBy 16 = .ok (.bipush 99, 2) := by decide +kernel
theorem dX9_winsBy_18 : decode cX9_winsBy 18 = .ok (.if_icmp .gt 42, 3) := by decide +kernel
theorem dX9_winsBy_21 : decode cX9_winsBy 21 = .ok (.iload 4, 2) := by decide +kernel
theorem dX9_winsBy_23 : decode cX9_winsBy 23 = .ok (.bipush (-9), 2) := by decide +kernel
theorem dX9_winsBy_25 : decode cX9_winsBy 25 = .ok (.if_icmp .ne 35, 3) := by decide +kernel
theorem dX9_winsBy_28 : decode cX9_winsBy 28 = .ok (.aload_n 0, 1) := by decide +kernel
theorem dX9_winsBy_29 : decode cX9_winsBy 29 = .ok (.getfield 35, 3) := by decide +kernel
theorem dX9_winsBy_32 : decode cX9_winsBy 32 = .ok (.iload_n 1, 1) := by decide +kernel
theorem dX9_winsBy_33 : decode cX9_winsBy 33 = .ok (.iload 5, 2) := by decide +kernel
theorem dX9_winsBy_35 : decode cX9_winsBy 35 = .ok (.iastore, 1) := by decide +kernel
theorem dX9_winsBy_36 : decode cX9_winsBy 36 = .ok (.aload_n 0, 1) := by decide +kernel
theorem dX9_winsBy_37 : decode cX9_winsBy 37 = .ok (.iload_n 2, 1) := by decide +kernel
theorem dX9_winsBy_38 : decode cX9_winsBy 38 = .ok (.invokevirtual 201, 3) := by decide +kernel
theorem dX9_winsBy_41 : decode cX9_winsBy 41 = .ok (.iload_n 1, 1) := by decide +kernel
theorem dX9_winsBy_42 : decode cX9_winsBy 42 = .ok (.if_icmp .ne 8, 3) := by decide +kernel
theorem dX9_winsBy_45 : decode cX9_winsBy 45 = .ok (.iload 5, 2) := by decide +kernel
theorem dX9_winsBy_47 : decode cX9_winsBy 47 = .ok (.goto 5, 3) := by decide +kernel
theorem dX9_winsBy_50 : decode cX9_winsBy 50 = .ok (.bipush (-9), 2) := by decide +kernel
theorem dX9_winsBy_52 : decode cX9_winsBy 52 = .ok (.istore 4, 2) := by decide +kernel
theorem dX9_winsBy_54 : decode cX9_winsBy 54 = .ok (.iinc 5 1, 3) := by decide +kernel
theorem dX9_winsBy_57 : decode cX9_winsBy 57 = .ok (.goto (-43), 3) := by decide +kernel
theorem dX9_winsBy_60 : decode cX9_winsBy 60 = .ok (.aload_n 0, 1) := by decide +kernel
theorem dX9_winsBy_61 : decode cX9_winsBy 61 = .ok (.getfield 35, 3) := by decide +kernel
theorem dX9_winsBy_64 : decode cX9_winsBy 64 = .ok (.iload_n 1, 1) := by decide +kernel
theorem dX9_winsBy_65 : decode cX9_winsBy 65 = .ok (.iload_n 3, 1) := by decide +kernel
theorem dX9_winsBy_66 : decode cX9_winsBy 66 = .ok (.iastore, 1) := by decide +kernel
theorem dX9_winsBy_67 : decode cX9_winsBy 67 = .ok (.iload 4, 2) := by decide +kernel
theorem dX9_winsBy_69 : decode cX9_winsBy 69 = .ok (.ireturn, 1) := by decide +kernel
set_option maxRecDepth 20000 in
theorem ggX9_wins_X9_isBell : GoodIn wsX9_wins wsX9_isBell := goodIn_r _ [5, 6, 77, 78, 79, 80, 81, 82, 83, 84, 85, 86, 87, 88, 89, 90, 91, 92, 93, 94, 95, 96, 97, 98, 99, 100, 101, 102, 103, 104, 105, 106, 107, 108] (by decide +kernel) (by decide +kernel)
set_option maxRecDepth 20000 in
theorem gX9_wins_X9_isBell : GoodIn wsX9_wins (wsV RX9 145 RX9 yX9_isBell wsX9_isBell) := goodIn_app (goodIn_of _ (by decide +kernel)) ggX9_wins_X9_isBell
set_option maxRecDepth 20000 in
theorem ggX9_wins_X9_isCell : GoodIn wsX9_wins wsX9_isCell := goodIn_r _ [10, 11, 12, 13, 4, 14, 15, 16, 77, 78, 79, 80, 81, 82, 83, 84, 85, 86, 87, 88, 89, 90, 91, 92, 93, 94, 95, 96, 97, 98, 99, 100, 101, 102, 103, 104, 105, 106, 107, 108] (by decide +kernel) (by decide +kernel)
set_option maxRecDepth 20000 in
theorem gX9_wins_X9_isCell : GoodIn wsX9_wins (wsV RX9 133 RX9 yX9_isCell wsX9_isCell) := goodIn_app (goodIn_of _ (by decide +kernel)) ggX9_wins_X9_isCell
set_option maxRecDepth 20000 in
theorem ggX9_wins_X9_isWind : GoodIn wsX9_wins wsX9_isWind := goodIn_r _ [19, 20, 21, 4, 22] (by decide +kernel) (by decide +kernel)
set_option maxRecDepth 20000 in
theorem gX9_wins_X9_isWind : GoodIn wsX9_wins (va_wsS RX9 169 yX9_isWind wsX9_isWind) := goodIn_app (goodIn_of _ (by decide +kernel)) ggX9_wins_X9_isWind
set_option maxRecDepth 20000 in
theorem ggX9_wins_X9_layLoud : GoodIn wsX9_wins wsX9_layLoud := goodIn_r _ [26, 6, 27, 28, 29, 4, 30, 31, 32, 33, 34, 11, 12, 13, 14, 15, 16, 35, 36, 37, 38, 39, 40, 41, 42, 43, 44, 45, 46, 47, 48, 49, 50, 51, 52, 53, 77, 78, 79, 80, 81, 82, 83, 84, 85, 86, 87, 88, 89, 90, 91, 92, 93, 94, 95, 96, 97, 98, 99, 100, 101, 102, 103, 104, 105, 106, 107, 108] (by decide +kernel) (by decide +kernel)
set_option maxRecDepth 20000 in
theorem gX9_wins_X9_layLoud : GoodIn wsX9_wins (wsV RX9 197 RX9 yX9_layLoud wsX9_layLoud) := goodIn_app (goodIn_of _ (by decide +kernel)) ggX9_wins_X9_layLoud
set_option maxRecDepth 20000 in
theorem ggX9_wins_X9_winsBy : GoodIn wsX9_wins wsX9_winsBy := goodIn_r _ [57, 58, 59, 60, 61, 4, 62, 63, 64, 65, 66, 67, 6, 68, 69, 70, 71, 31, 33, 72, 73, 74, 75, 44, 76, 77, 78, 79, 80, 81, 82, 83, 84, 85, 86, 87, 88, 89, 90, 91, 92, 93, 94, 95, 96, 97, 98, 99, 100, 101, 102, 103, 104, 105, 106, 107, 108] (by decide +kernel) (by decide +kernel)
set_option maxRecDepth 20000 in
theorem gX9_wins_X9_winsBy : GoodIn wsX9_wins (wsV RX9 216 RX9 yX9_winsBy wsX9_winsBy) := goodIn_app (goodIn_of _ (by decide +kernel)) ggX9_wins_X9_winsBy
theorem dX9_wins_0 : decode cX9_wins 0 = .ok (.aload_n 0, 1) := by decide +kernel
theorem dX9_wins_1 : decode cX9_wins 1 = .ok (.iload_n 1, 1) := by decide +kernel
theorem dX9_wins_2 : decode cX9_wins 2 = .ok (.invokevirtual 145, 3) := by decide +kernel
theorem dX9_wins_5 : decode cX9_wins 5 = .ok (.ifCond .eq 11, 3) := by decide +kernel
theorem dX9_wins_8 : decode cX9_wins 8 = .ok (.aload_n 0, 1) := by decide +kernel
theorem dX9_wins_9 : decode cX9_wins 9 = .ok (.iload_n 2, 1) := by decide +kernel
theorem dX9_wins_10 : decode cX9_wins 10 = .ok (.invokevirtual 133, 3) := by decide +kernel
theorem dX9_wins_13 : decode cX9_wins 13 = .ok (.ifCond .ne 5, 3) := by decide +kernel
theorem dX9_wins_16 : decode cX9_wins 16 = .ok (.iconst (-1), 1) := by decide +kernel
theorem dX9_wins_17 : decode cX9_wins 17 = .ok (.ireturn, 1) := by decide +kernel
theorem dX9_wins_18 : decode cX9_wins 18 = .ok (.iload_n 3, 1) := by decide +kernel
theorem dX9_wins_19 : decode cX9_wins 19 = .ok (.invokestatic 169, 3) := by decide +kernel
theorem dX9_wins_22 : decode cX9_wins 22 = .ok (.ifCond .ne 6, 3) := by decide +kernel
theorem dX9_wins_25 : decode cX9_wins 25 = .ok (.bipush (-2), 2) := by decide +kernel
theorem dX9_wins_27 : decode cX9_wins 27 = .ok (.ireturn, 1) := by decide +kernel
theorem dX9_wins_28 : decode cX9_wins 28 = .ok (.aload_n 0, 1) := by decide +kernel
theorem dX9_wins_29 : decode cX9_wins 29 = .ok (.iload_n 3, 1) := by decide +kernel
theorem dX9_wins_30 : decode cX9_wins 30 = .ok (.invokevirtual 197, 3) := by decide +kernel
theorem dX9_wins_33 : decode cX9_wins 33 = .ok (.aload_n 0, 1) := by decide +kernel
theorem dX9_wins_34 : decode cX9_wins 34 = .ok (.iload_n 1, 1) := by decide +kernel
theorem dX9_wins_35 : decode cX9_wins 35 = .ok (.iload_n 2, 1) := by decide +kernel
theorem dX9_wins_36 : decode cX9_wins 36 = .ok (.invokevirtual 216, 3) := by decide +kernel
theorem dX9_wins_39 : decode cX9_wins 39 = .ok (.ireturn, 1) := by decide +kernel
set_option maxRecDepth 20000 in
theorem ggX9_cheapest_X9_isCell : GoodIn wsX9_cheapest wsX9_isCell := goodIn_r _ [7, 8, 9, 10, 6, 11, 12, 13, 73, 74, 75, 76, 77, 78, 79, 80, 81, 82, 83, 84, 85, 86, 87, 88, 89, 90, 91, 92, 93, 94, 95, 96, 97, 98, 99, 100, 101, 102, 103, 104] (by decide +kernel) (by decide +kernel)
set_option maxRecDepth 20000 in
theorem gX9_cheapest_X9_isCell : GoodIn wsX9_cheapest (wsV RX9 133 RX9 yX9_isCell wsX9_isCell) := goodIn_app (goodIn_of _ (by decide +kernel)) ggX9_cheapest_X9_isCell
set_option maxRecDepth 20000 in
theorem ggX9_cheapest_X9_isWind : GoodIn wsX9_cheapest wsX9_isWind := goodIn_r _ [16, 17, 18, 6, 19] (by decide +kernel) (by decide +kernel)
set_option maxRecDepth 20000 in
theorem gX9_cheapest_X9_isWind : GoodIn wsX9_cheapest (va_wsS RX9 169 yX9_isWind wsX9_isWind) := goodIn_app (goodIn_of _ (by decide +kernel)) ggX9_cheapest_X9_isWind
set_option maxRecDepth 20000 in
theorem ggX9_cheapest_X9_within : GoodIn wsX9_cheapest wsX9_within := goodIn_r _ [19] (by decide +kernel) (by decide +kernel)
set_option maxRecDepth 20000 in
theorem gX9_cheapest_X9_within : GoodIn wsX9_cheapest (va_wsS RX9 75 yX9_within wsX9_within) := goodIn_app (goodIn_of _ (by decide +kernel)) ggX9_cheapest_X9_within
set_option maxRecDepth 20000 in
theorem ggX9_cheapest_X9_layLoud : GoodIn wsX9_cheapest wsX9_layLoud := goodIn_r _ [23, 1, 24, 25, 26, 6, 27, 28, 29, 30, 31, 8, 9, 10, 11, 12, 13, 32, 33, 34, 35, 36, 37, 38, 39, 40, 41, 42, 43, 44, 45, 46, 47, 48, 49, 50, 73, 74, 75, 76, 77, 78, 79, 80, 81, 82, 83, 84, 85, 86, 87, 88, 89, 90, 91, 92, 93, 94, 95, 96, 97, 98, 99, 100, 101, 102, 103, 104] (by decide +kernel) (by decide +kernel)
set_option maxRecDepth 20000 in
theorem gX9_cheapest_X9_layLoud : GoodIn wsX9_cheapest (wsV RX9 197 RX9 yX9_layLoud wsX9_layLoud) := goodIn_app (goodIn_of _ (by decide +kernel)) ggX9_cheapest_X9_layLoud
set_option maxRecDepth 20000 in
theorem ggX9_cheapest_X9_winsBy : GoodIn wsX9_cheapest wsX9_winsBy := goodIn_r _ [54, 2, 55, 56, 57, 6, 58, 59, 60, 61, 62, 63, 1, 64, 65, 66, 67, 28, 30, 68, 69, 70, 71, 41, 72, 73, 74, 75, 76, 77, 78, 79, 80, 81, 82, 83, 84, 85, 86, 87, 88, 89, 90, 91, 92, 93, 94, 95, 96, 97, 98, 99, 100, 101, 102, 103, 104] (by decide +kernel) (by decide +kernel)
set_option maxRecDepth 20000 in
theorem gX9_cheapest_X9_winsBy : GoodIn wsX9_cheapest (wsV RX9 216 RX9 yX9_winsBy wsX9_winsBy) := goodIn_app (goodIn_of _ (by decide +kernel)) ggX9_cheapest_X9_winsBy
theorem dX9_cheapest_0 : decode cX9_cheapest 0 = .ok (.aload_n 0, 1) := by decide +kernel
theorem dX9_cheapest_1 : decode cX9_cheapest 1 = .ok (.iload_n 1, 1) := by decide +kernel
theorem dX9_cheapest_2 : decode cX9_cheapest 2 = .ok (.invokevirtual 133, 3) := by decide +kernel
theorem dX9_cheapest_5 : decode cX9_cheapest 5 = .ok (.ifCond .ne 5, 3) := by decide +kernel
theorem dX9_cheapest_8 : decode cX9_cheapest 8 = .ok (.iconst (-1), 1) := by decide +kernel
theorem dX9_cheapest_9 : decode cX9_cheapest 9 = .ok (.ireturn, 1) := by decide +kernel
theorem dX9_cheapest_10 : decode cX9_cheapest 10 = .ok (.iload_n 2, 1) := by decide +kernel
theorem dX9_cheapest_11 : decode cX9_cheapest 11 = .ok (.invokestatic 169, 3) := by decide +kernel
theorem dX9_cheapest_14 : decode cX9_cheapest 14 = .ok (.ifCond .eq 12, 3) := by decide +kernel
theorem dX9_cheapest_17 : decode cX9_cheapest 17 = .ok (.iload_n 3, 1) := by decide +kernel
theorem dX9_cheapest_18 : decode cX9_cheapest 18 = .ok (.iconst 0, 1) := by decide +kernel
theorem dX9_cheapest_19 : decode cX9_cheapest 19 = .ok (.iconst 1, 1) := by decide +kernel
theorem dX9_cheapest_20 : decode cX9_cheapest 20 = .ok (.invokestatic 75, 3) := by decide +kernel
theorem dX9_cheapest_23 : decode cX9_cheapest 23 = .ok (.ifCond .ne 6, 3) := by decide +kernel
theorem dX9_cheapest_26 : decode cX9_cheapest 26 = .ok (.bipush (-2), 2) := by decide +kernel
theorem dX9_cheapest_28 : decode cX9_cheapest 28 = .ok (.ireturn, 1) := by decide +kernel
theorem dX9_cheapest_29 : decode cX9_cheapest 29 = .ok (.aload_n 0, 1) := by decide +kernel
theorem dX9_cheapest_30 : decode cX9_cheapest 30 = .ok (.iload_n 2, 1) := by decide +kernel
theorem dX9_cheapest_31 : decode cX9_cheapest 31 = .ok (.invokevirtual 197, 3) := by decide +kernel
theorem dX9_cheapest_34 : decode cX9_cheapest 34 = .ok (.bipush (-9), 2) := by decide +kernel
theorem dX9_cheapest_36 : decode cX9_cheapest 36 = .ok (.istore 4, 2) := by decide +kernel
theorem dX9_cheapest_38 : decode cX9_cheapest 38 = .ok (.bipush (-9), 2) := by decide +kernel
theorem dX9_cheapest_40 : decode cX9_cheapest 40 = .ok (.istore 5, 2) := by decide +kernel
theorem dX9_cheapest_42 : decode cX9_cheapest 42 = .ok (.iconst 0, 1) := by decide +kernel
theorem dX9_cheapest_43 : decode cX9_cheapest 43 = .ok (.istore 6, 2) := by decide +kernel
theorem dX9_cheapest_45 : decode cX9_cheapest 45 = .ok (.iload 6, 2) := by decide +kernel
theorem dX9_cheapest_47 : decode cX9_cheapest 47 = .ok (.aload_n 0, 1) := by decide +kernel
theorem dX9_cheapest_48 : decode cX9_cheapest 48 = .ok (.getfield 116, 3) := by decide +kernel
theorem dX9_cheapest_51 : decode cX9_cheapest 51 = .ok (.if_icmp .ge 88, 3) := by decide +kernel
theorem dX9_cheapest_54 : decode cX9_cheapest 54 = .ok (.aload_n 0, 1) := by decide +kernel
theorem dX9_cheapest_55 : decode cX9_cheapest 55 = .ok (.iload 6, 2) := by decide +kernel
theorem dX9_cheapest_57 : decode cX9_cheapest 57 = .ok (.iload_n 1, 1) := by decide +kernel
theorem dX9_cheapest_58 : decode cX9_cheapest 58 = .ok (.invokevirtual 216, 3) := by decide +kernel
theorem dX9_cheapest_61 : decode cX9_cheapest 61 = .ok (.istore 7, 2) := by decide +kernel
theorem dX9_cheapest_63 : decode cX9_cheapest 63 = .ok (.iload 7, 2) := by decide +kernel
theorem dX9_cheapest_65 : decode cX9_cheapest 65 = .ok (.bipush (-9), 2) := by decide +kernel
theorem dX9_cheapest_67 : decode cX9_cheapest 67 = .ok (.if_icmp .ne 9, 3) := by decide +kernel
theorem dX9_cheapest_70 : decode cX9_cheapest 70 = .ok (.sipush 1000, 3) := by decide +kernel
theorem dX9_cheapest_73 : decode cX9_cheapest 73 = .ok (.goto 29, 3) := by decide +kernel
theorem dX9_cheapest_76 : decode cX9_cheapest 76 = .ok (.iload 7, 2) := by decide +kernel
theorem dX9_cheapest_78 : decode cX9_cheapest 78 = .ok (.aload_n 0, 1) := by decide +kernel
theorem dX9_cheapest_79 : decode cX9_cheapest 79 = .ok (.getfield 35, 3) := by decide +kernel
theorem dX9_cheapest_82 : decode cX9_cheapest 82 = .ok (.iload 6, 2) := by decide +kernel
theorem dX9_cheapest_84 : decode cX9_cheapest 84 = .ok (.iaload, 1) := by decide +kernel
theorem dX9_cheapest_85 : decode cX9_cheapest 85 = .ok (.if_icmp .le 16, 3) := by decide +kernel
theorem dX9_cheapest_88 : decode cX9_cheapest 88 = .ok (.iload 7, 2) := by decide +kernel
theorem dX9_cheapest_90 : decode cX9_cheapest 90 = .ok (.aload_n 0, 1) := by decide +kernel
theorem dX9_cheapest_91 : decode cX9_cheapest 91 = .ok (.getfield 35, 3) := by decide +kernel
theorem dX9_cheapest_94 : decode cX9_cheapest 94 = .ok (.iload 6, 2) := by decide +kernel
theorem dX9_cheapest_96 : decode cX9_cheapest 96 = .ok (.iaload, 1) := by decide +kernel
theorem dX9_cheapest_97 : decode cX9_cheapest 97 = .ok (.isub, 1) := by decide +kernel
theorem dX9_cheapest_98 : decode cX9_cheapest 98 = .ok (.goto 4, 3) := by decide +kernel
theorem dX9_cheapest_101 : decode cX9_cheapest 101 = .ok (.iconst 0, 1) := by decide +kernel
theorem dX9_cheapest_102 : decode cX9_cheapest 102 = .ok (.istore 8, 2) := by decide +kernel
theorem dX9_cheapest_104 : decode cX9_cheapest 104 = .ok (.iload 7, 2) := by decide +kernel
theorem dX9_cheapest_106 : decode cX9_cheapest 106 = .ok (.bipush (-9), 2) := by decide +kernel
theorem dX9_cheapest_108 : decode cX9_cheapest 108 = .ok (.if_icmp .eq 25, 3) := by decide +kernel
theorem dX9_cheapest_111 : decode cX9_cheapest 111 = .ok (.iload 4, 2) := by decide +kernel
theorem dX9_cheapest_113 : decode cX9_cheapest 113 = .ok (.bipush (-9), 2) := by decide +kernel
theorem dX9_cheapest_115 : decode cX9_cheapest 115 = .ok (.if_icmp .eq 10, 3) := by decide +kernel
theorem dX9_cheapest_118 : decode cX9_cheapest 118 = .ok (.iload 8, 2) := by decide +kernel
theorem dX9_cheapest_120 : decode cX9_cheapest 120 = .ok (.iload 5, 2) := by decide +kernel
theorem dX9_cheapest_122 : decode cX9_cheapest 122 = .ok (.if_icmp .ge 11, 3) := by decide +kernel
theorem dX9_cheapest_125 : decode cX9_cheapest 125 = .ok (.iload 6, 2) := by decide +kernel
theorem dX9_cheapest_127 : decode cX9_cheapest 127 = .ok (.istore 4, 2) := by decide +kernel
theorem dX9_cheapest_129 : decode cX9_cheapest 129 = .ok (.iload 8, 2) := by decide +kernel
theorem dX9_cheapest_131 : decode cX9_cheapest 131 = .ok (.istore 5, 2) := by decide +kernel
theorem dX9_cheapest_133 : decode cX9_cheapest 133 = .ok (.iinc 6 1, 3) := by decide +kernel
theorem dX9_cheapest_136 : decode cX9_cheapest 136 = .ok (.goto (-91), 3) := by decide +kernel
theorem dX9_cheapest_139 : decode cX9_cheapest 139 = .ok (.iload_n 3, 1) := by decide +kernel
theorem dX9_cheapest_140 : decode cX9_cheapest 140 = .ok (.ifCond .ne 8, 3) := by decide +kernel
theorem dX9_cheapest_143 : decode cX9_cheapest 143 = .ok (.iload 4, 2) := by decide +kernel
theorem dX9_cheapest_145 : decode cX9_cheapest 145 = .ok (.goto 5, 3) := by decide +kernel
theorem dX9_cheapest_148 : decode cX9_cheapest 148 = .ok (.iload 5, 2) := by decide +kernel
theorem dX9_cheapest_150 : decode cX9_cheapest 150 = .ok (.ireturn, 1) := by decide +kernel
set_option maxRecDepth 20000 in
theorem ggX9_ownCells_X9_all : GoodIn wsX9_ownCells wsX9_all := goodIn_r _ [5, 6, 7, 31, 32, 33, 34, 35, 36, 37, 38, 39, 40, 41, 42, 43, 44, 45, 46, 47, 48, 49, 50, 51, 52, 53, 54, 55, 56, 57, 58, 59, 60, 61, 62] (by decide +kernel) (by decide +kernel)
set_option maxRecDepth 20000 in
theorem gX9_ownCells_X9_all : GoodIn wsX9_ownCells (wsV RX9 85 RX9 yX9_all wsX9_all) := goodIn_app (goodIn_of _ (by decide +kernel)) ggX9_ownCells_X9_all
set_option maxRecDepth 20000 in
theorem ggX9_ownCells_X9_whoseBy : GoodIn wsX9_ownCells wsX9_whoseBy := goodIn_r _ [11, 12, 13, 14, 15, 4, 16, 17, 18, 19, 20, 21, 22, 23, 24, 25, 26, 27, 28, 29, 30, 31, 32, 33, 34, 35, 36, 37, 38, 39, 40, 41, 42, 43, 44, 45, 46, 47, 48, 49, 50, 51, 52, 53, 54, 55, 56, 57, 58, 59, 60, 61, 62] (by decide +kernel) (by decide +kernel)
set_option maxRecDepth 20000 in
theorem gX9_ownCells_X9_whoseBy : GoodIn wsX9_ownCells (wsV RX9 201 RX9 yX9_whoseBy wsX9_whoseBy) := goodIn_app (goodIn_of _ (by decide +kernel)) ggX9_ownCells_X9_whoseBy
theorem dX9_ownCells_0 : decode cX9_ownCells 0 = .ok (.iconst 0, 1) := by decide +kernel
theorem dX9_ownCells_1 : decode cX9_ownCells 1 = .ok (.istore_n 2, 1) := by decide +kernel
theorem dX9_ownCells_2 : decode cX9_ownCells 2 = .ok (.iconst 0, 1) := by decide +kernel
theorem dX9_ownCells_3 : decode cX9_ownCells 3 = .ok (.istore_n 3, 1) := by decide +kernel
theorem dX9_ownCells_4 : decode cX9_ownCells 4 = .ok (.iload_n 3, 1) := by decide +kernel
theorem dX9_ownCells_5 : decode cX9_ownCells 5 = .ok (.aload_n 0, 1) := by decide +kernel
theorem dX9_ownCells_6 : decode cX9_ownCells 6 = .ok (.invokevirtual 85, 3) := by decide +kernel
theorem dX9_ownCells_9 : decode cX9_ownCells 9 = .ok (.if_icmp .ge 26, 3) := by decide +kernel
theorem dX9_ownCells_12 : decode cX9_ownCells 12 = .ok (.iload_n 2, 1) := by decide +kernel
theorem dX9_ownCells_13 : decode cX9_ownCells 13 = .ok (.aload_n 0, 1) := by decide +kernel
theorem dX9_ownCells_14 : decode cX9_ownCells 14 = .ok (.iload_n 3, 1) := by decide +kernel
theorem dX9_ownCells_15 : decode cX9_ownCells 15 = .ok (.invokevirtual 201, 3) := by decide +kernel
theorem dX9_ownCells_18 : decode cX9_ownCells 18 = .ok (.iload_n 1, 1) := by decide +kernel
theorem dX9_ownCells_19 : decode cX9_ownCells 19 = .ok (.if_icmp .ne 7, 3) := by decide +kernel
theorem dX9_ownCells_22 : decode cX9_ownCells 22 = .ok (.iconst 1, 1) := by decide +kernel
theorem dX9_ownCells_23 : decode cX9_ownCells 23 = .ok (.goto 4, 3) := by decide +kernel
theorem dX9_ownCells_26 : decode cX9_ownCells 26 = .ok (.iconst 0, 1) := by decide +kernel
theorem dX9_ownCells_27 : decode cX9_ownCells 27 = .ok (.iadd, 1) := by decide +kernel
theorem dX9_ownCells_28 : decode cX9_ownCells 28 = .ok (.istore_n 2, 1) := by decide +kernel
theorem dX9_ownCells_29 : decode cX9_ownCells 29 = .ok (.iinc 3 1, 3) := by decide +kernel
theorem dX9_ownCells_32 : decode cX9_ownCells 32 = .ok (.goto (-28), 3) := by decide +kernel
theorem dX9_ownCells_35 : decode cX9_ownCells 35 = .ok (.iload_n 2, 1) := by decide +kernel
theorem dX9_ownCells_36 : decode cX9_ownCells 36 = .ok (.ireturn, 1) := by decide +kernel
set_option maxRecDepth 20000 in
theorem ggX9_hang_X9_within : GoodIn wsX9_hang wsX9_within := goodIn_r _ [8] (by decide +kernel) (by decide +kernel)
set_option maxRecDepth 20000 in
theorem gX9_hang_X9_within : GoodIn wsX9_hang (va_wsS RX9 75 yX9_within wsX9_within) := goodIn_app (goodIn_of _ (by decide +kernel)) ggX9_hang_X9_within
set_option maxRecDepth 20000 in
theorem ggX9_hang_X9_isWeight : GoodIn wsX9_hang wsX9_isWeight := goodIn_r _ [11, 5, 6, 7, 8] (by decide +kernel) (by decide +kernel)
set_option maxRecDepth 20000 in
theorem gX9_hang_X9_isWeight : GoodIn wsX9_hang (va_wsS RX9 142 yX9_isWeight wsX9_isWeight) := goodIn_app (goodIn_of _ (by decide +kernel)) ggX9_hang_X9_isWeight
set_option maxRecDepth 20000 in
theorem ggX9_hang_X9_isWind : GoodIn wsX9_hang wsX9_isWind := goodIn_r _ [14, 5, 6, 7, 8] (by decide +kernel) (by decide +kernel)
set_option maxRecDepth 20000 in
theorem gX9_hang_X9_isWind : GoodIn wsX9_hang (va_wsS RX9 169 yX9_isWind wsX9_isWind) := goodIn_app (goodIn_of _ (by decide +kernel)) ggX9_hang_X9_isWind
set_option maxRecDepth 20000 in
theorem ggX9_hang_X9_all : GoodIn wsX9_hang wsX9_all := goodIn_r _ [18, 19, 20, 72, 73, 74, 75, 76, 77, 78, 79, 80, 81, 82, 83, 84, 85, 86, 87, 88, 89, 90, 91, 92, 93, 94, 95, 96, 97, 98, 99, 100, 101, 102, 103] (by decide +kernel) (by decide +kernel)
set_option maxRecDepth 20000 in
theorem gX9_hang_X9_all : GoodIn wsX9_hang (wsV RX9 85 RX9 yX9_all wsX9_all) := goodIn_app (goodIn_of _ (by decide +kernel)) ggX9_hang_X9_all
set_option maxRecDepth 20000 in
theorem ggX9_hang_X9_layLoud : GoodIn wsX9_hang wsX9_layLoud := goodIn_r _ [24, 1, 25, 26, 27, 7, 28, 29, 30, 31, 32, 15, 16, 17, 18, 19, 20, 33, 34, 35, 36, 4, 2, 37, 38, 39, 40, 41, 42, 43, 44, 45, 46, 47, 48, 49, 72, 73, 74, 75, 76, 77, 78, 79, 80, 81, 82, 83, 84, 85, 86, 87, 88, 89, 90, 91, 92, 93, 94, 95, 96, 97, 98, 99, 100, 101, 102, 103] (by decide +kernel) (by decide +kernel)
set_option maxRecDepth 20000 in
theorem gX9_hang_X9_layLoud : GoodIn wsX9_hang (wsV RX9 197 RX9 yX9_layLoud wsX9_layLoud) := goodIn_app (goodIn_of _ (by decide +kernel)) ggX9_hang_X9_layLoud
set_option maxRecDepth 20000 in
theorem ggX9_hang_X9_layOne : GoodIn wsX9_hang wsX9_layOne := goodIn_r _ [28, 29, 30, 31, 32, 15, 16, 17, 7, 18, 19, 20, 33, 34, 35, 36, 4, 2, 37, 38, 39, 40, 41, 42, 43, 44, 45, 46, 47, 48, 49, 72, 73, 74, 75, 76, 77, 78, 79, 80, 81, 82, 83, 84, 85, 86, 87, 88, 89, 90, 91, 92, 93, 94, 95, 96, 97, 98, 99, 100, 101, 102, 103] (by decide +kernel) (by decide +kernel)
set_option maxRecDepth 20000 in
theorem gX9_hang_X9_layOne : GoodIn wsX9_hang (wsV RX9 180 RX9 yX9_layOne wsX9_layOne) := goodIn_app (goodIn_of _ (by decide +kernel)) ggX9_hang_X9_layOne
set_option maxRecDepth 20000 in
theorem ggX9_hang_X9_ownCells : GoodIn wsX9_hang wsX9_ownCells := goodIn_r _ [53, 15, 16, 17, 7, 18, 19, 20, 54, 55, 56, 57, 58, 59, 60, 61, 62, 1, 63, 64, 65, 66, 3, 29, 31, 67, 68, 69, 70, 40, 71, 72, 73, 74, 75, 76, 77, 78, 79, 80, 81, 82, 83, 84, 85, 86, 87, 88, 89, 90, 91, 92, 93, 94, 95, 96, 97, 98, 99, 100, 101, 102, 103] (by decide +kernel) (by decide +kernel)
set_option maxRecDepth 20000 in
theorem gX9_hang_X9_ownCells : GoodIn wsX9_hang (wsV RX9 219 RX9 yX9_ownCells wsX9_ownCells) := goodIn_app (goodIn_of _ (by decide +kernel)) ggX9_hang_X9_ownCells
theorem dX9_hang_0 : decode cX9_hang 0 = .ok (.iload_n 1, 1) := by decide +kernel
theorem dX9_hang_1 : decode cX9_hang 1 = .ok (.iconst 0, 1) := by decide +kernel
theorem dX9_hang_2 : decode cX9_hang 2 = .ok (.iconst 2, 1) := by decide +kernel
theorem dX9_hang_3 : decode cX9_hang 3 = .ok (.invokestatic 75, 3) := by decide +kernel
theorem dX9_hang_6 : decode cX9_hang 6 = .ok (.ifCond .eq 27, 3) := by decide +kernel
theorem dX9_hang_9 : decode cX9_hang 9 = .ok (.iload_n 2, 1) := by decide +kernel
theorem dX9_hang_10 : decode cX9_hang 10 = .ok (.invokestatic 142, 3) := by decide +kernel
theorem dX9_hang_13 : decode cX9_hang 13 = .ok (.ifCond .eq 20, 3) := by decide +kernel
theorem dX9_hang_16 : decode cX9_hang 16 = .ok (.iload_n 3, 1) := by decide +kernel
theorem dX9_hang_17 : decode cX9_hang 17 = .ok (.invokestatic 169, 3) := by decide +kernel
theorem dX9_hang_20 : decode cX9_hang 20 = .ok (.ifCond .eq 13, 3) := by decide +kernel
theorem dX9_hang_23 : decode cX9_hang 23 = .ok (.iload 4, 2) := by decide +kernel
theorem dX9_hang_25 : decode cX9_hang 25 = .ok (.iconst 0, 1) := by decide +kernel
theorem dX9_hang_26 : decode cX9_hang 26 = .ok (.iconst 1, 1) := by decide +kernel
theorem dX9_hang_27 : decode cX9_hang 27 = .ok (.invokestatic 75, 3) := by decide +kernel
theorem dX9_hang_30 : decode cX9_hang 30 = .ok (.ifCond .ne 6, 3) := by decide +kernel
theorem dX9_hang_33 : decode cX9_hang 33 = .ok (.bipush (-2), 2) := by decide +kernel
theorem dX9_hang_35 : decode cX9_hang 35 = .ok (.ireturn, 1) := by decide +kernel
theorem dX9_hang_36 : decode cX9_hang 36 = .ok (.aload_n 0, 1) := by decide +kernel
theorem dX9_hang_37 : decode cX9_hang 37 = .ok (.invokevirtual 85, 3) := by decide +kernel
theorem dX9_hang_40 : decode cX9_hang 40 = .ok (.ifCond .ne 6, 3) := by decide +kernel
theorem dX9_hang_43 : decode cX9_hang 43 = .ok (.bipush (-3), 2) := by decide +kernel
theorem dX9_hang_45 : decode cX9_hang 45 = .ok (.ireturn, 1) := by decide +kernel
theorem dX9_hang_46 : decode cX9_hang 46 = .ok (.aload_n 0, 1) := by decide +kernel
theorem dX9_hang_47 : decode cX9_hang 47 = .ok (.getfield 116, 3) := by decide +kernel
theorem dX9_hang_50 : decode cX9_hang 50 = .ok (.bipush 6, 2) := by decide +kernel
theorem dX9_hang_52 : decode cX9_hang 52 = .ok (.if_icmp .ne 6, 3) := by decide +kernel
theorem dX9_hang_55 : decode cX9_hang 55 = .ok (.bipush (-4), 2) := by decide +kernel
theorem dX9_hang_57 : decode cX9_hang 57 = .ok (.ireturn, 1) := by decide +kernel
theorem dX9_hang_58 : decode cX9_hang 58 = .ok (.aload_n 0, 1) := by decide +kernel
theorem dX9_hang_59 : decode cX9_hang 59 = .ok (.iload_n 3, 1) := by decide +kernel
theorem dX9_hang_60 : decode cX9_hang 60 = .ok (.invokevirtual 197, 3) := by decide +kernel
theorem dX9_hang_63 : decode cX9_hang 63 = .ok (.aload_n 0, 1) := by decide +kernel
theorem dX9_hang_64 : decode cX9_hang 64 = .ok (.getfield 116, 3) := by decide +kernel
theorem dX9_hang_67 : decode cX9_hang 67 = .ok (.istore 5, 2) := by decide +kernel
theorem dX9_hang_69 : decode cX9_hang 69 = .ok (.aload_n 0, 1) := by decide +kernel
theorem dX9_hang_70 : decode cX9_hang 70 = .ok (.getfield 29, 3) := by decide +kernel
theorem dX9_hang_73 : decode cX9_hang 73 = .ok (.iload 5, 2) := by decide +kernel
theorem dX9_hang_75 : decode cX9_hang 75 = .ok (.iload_n 1, 1) := by decide +kernel
theorem dX9_hang_76 : decode cX9_hang 76 = .ok (.iastore, 1) := by decide +kernel
theorem dX9_hang_77 : decode cX9_hang 77 = .ok (.aload_n 0, 1) := by decide +kernel
theorem dX9_hang_78 : decode cX9_hang 78 = .ok (.getfield 35, 3) := by decide +kernel
theorem dX9_hang_81 : decode cX9_hang 81 = .ok (.iload 5, 2) := by decide +kernel
theorem dX9_hang_83 : decode cX9_hang 83 = .ok (.iload_n 2, 1) := by decide +kernel
theorem dX9_hang_84 : decode cX9_hang 84 = .ok (.iastore, 1) := by decide +kernel
theorem dX9_hang_85 : decode cX9_hang 85 = .ok (.aload_n 0, 1) := by decide +kernel
theorem dX9_hang_86 : decode cX9_hang 86 = .ok (.dup, 1) := by decide +kernel
theorem dX9_hang_87 : decode cX9_hang 87 = .ok (.getfield 116, 3) := by decide +kernel
theorem dX9_hang_90 : decode cX9_hang 90 = .ok (.iconst 1, 1) := by decide +kernel
theorem dX9_hang_91 : decode cX9_hang 91 = .ok (.iadd, 1) := by decide +kernel
theorem dX9_hang_92 : decode cX9_hang 92 = .ok (.putfield 116, 3) := by decide +kernel
theorem dX9_hang_95 : decode cX9_hang 95 = .ok (.iconst 0, 1) := by decide +kernel
theorem dX9_hang_96 : decode cX9_hang 96 = .ok (.istore 6, 2) := by decide +kernel
theorem dX9_hang_98 : decode cX9_hang 98 = .ok (.iconst (-1), 1) := by decide +kernel
theorem dX9_hang_99 : decode cX9_hang 99 = .ok (.istore 7, 2) := by decide +kernel
theorem dX9_hang_101 : decode cX9_hang 101 = .ok (.iconst 0, 1) := by decide +kernel
theorem dX9_hang_102 : decode cX9_hang 102 = .ok (.istore 8, 2) := by decide +kernel
theorem dX9_hang_104 : decode cX9_hang 104 = .ok (.iload 8, 2) := by decide +kernel
theorem dX9_hang_106 : decode cX9_hang 106 = .ok (.aload_n 0, 1) := by decide +kernel
theorem dX9_hang_107 : decode cX9_hang 107 = .ok (.invokevirtual 85, 3) := by decide +kernel
theorem dX9_hang_110 : decode cX9_hang 110 = .ok (.if_icmp .ge 48, 3) := by decide +kernel
theorem dX9_hang_113 : decode cX9_hang 113 = .ok (.aload_n 0, 1) := by decide +kernel
theorem dX9_hang_114 : decode cX9_hang 114 = .ok (.getfield 32, 3) := by decide +kernel
theorem dX9_hang_117 : decode cX9_hang 117 = .ok (.iload 5, 2) := by decide +kernel
theorem dX9_hang_119 : decode cX9_hang 119 = .ok (.iload 8, 2) := by decide +kernel
theorem dX9_hang_121 : decode cX9_hang 121 = .ok (.iastore, 1) := by decide +kernel
theorem dX9_hang_122 : decode cX9_hang 122 = .ok (.aload_n 0, 1) := by decide +kernel
theorem dX9_hang_123 : decode cX9_hang 123 = .ok (.iload 5, 2) := by decide +kernel
theorem dX9_hang_125 : decode cX9_hang 125 = .ok (.iload_n 3, 1) := by decide +kernel
theorem dX9_hang_126 : decode cX9_hang 126 = .ok (.invokevirtual 180, 3) := by decide +kernel
theorem dX9_hang_129 : decode cX9_hang 129 = .ok (.aload_n 0, 1) := by decide +kernel
theorem dX9_hang_130 : decode cX9_hang 130 = .ok (.iload 5, 2) := by decide +kernel
theorem dX9_hang_132 : decode cX9_hang 132 = .ok (.invokevirtual 219, 3) := by decide +kernel
theorem dX9_hang_135 : decode cX9_hang 135 = .ok (.istore 9, 2) := by decide +kernel
theorem dX9_hang_137 : decode cX9_hang 137 = .ok (.iload 9, 2) := by decide +kernel
theorem dX9_hang_139 : decode cX9_hang 139 = .ok (.iload 7, 2) := by decide +kernel
theorem dX9_hang_141 : decode cX9_hang 141 = .ok (.if_icmp .le 11, 3) := by decide +kernel
theorem dX9_hang_144 : decode cX9_hang 144 = .ok (.iload 9, 2) := by decide +kernel
theorem dX9_hang_146 : decode cX9_hang 146 = .ok (.istore 7, 2) := by decide +kernel
theorem dX9_hang_148 : decode cX9_hang 148 = .ok (.iload 8, 2) := by decide +kernel
theorem dX9_hang_150 : decode cX9_hang 150 = .ok (.istore 6, 2) := by decide +kernel
theorem dX9_hang_152 : decode cX9_hang 152 = .ok (.iinc 8 1, 3) := by decide +kernel
theorem dX9_hang_155 : decode cX9_hang 155 = .ok (.goto (-51), 3) := by decide +kernel
theorem dX9_hang_158 : decode cX9_hang 158 = .ok (.aload_n 0, 1) := by decide +kernel
theorem dX9_hang_159 : decode cX9_hang 159 = .ok (.dup, 1) := by decide +kernel
theorem dX9_hang_160 : decode cX9_hang 160 = .ok (.getfield 116, 3) := by decide +kernel
theorem dX9_hang_163 : decode cX9_hang 163 = .ok (.iconst 1, 1) := by decide +kernel
theorem dX9_hang_164 : decode cX9_hang 164 = .ok (.isub, 1) := by decide +kernel
theorem dX9_hang_165 : decode cX9_hang 165 = .ok (.putfield 116, 3) := by decide +kernel
theorem dX9_hang_168 : decode cX9_hang 168 = .ok (.iload 4, 2) := by decide +kernel
theorem dX9_hang_170 : decode cX9_hang 170 = .ok (.ifCond .ne 8, 3) := by decide +kernel
theorem dX9_hang_173 : decode cX9_hang 173 = .ok (.iload 6, 2) := by decide +kernel
theorem dX9_hang_175 : decode cX9_hang 175 = .ok (.goto 5, 3) := by decide +kernel
theorem dX9_hang_178 : decode cX9_hang 178 = .ok (.iload 7, 2) := by decide +kernel
theorem dX9_hang_180 : decode cX9_hang 180 = .ok (.ireturn, 1) := by decide +kernel
theorem dX9_isTheirs_0 : decode cX9_isTheirs 0 = .ok (.aload_n 0, 1) := by decide +kernel
theorem dX9_isTheirs_1 : decode cX9_isTheirs 1 = .ok (.getfield 35, 3) := by decide +kernel
theorem dX9_isTheirs_4 : decode cX9_isTheirs 4 = .ok (.iload_n 1, 1) := by decide +kernel
theorem dX9_isTheirs_5 : decode cX9_isTheirs 5 = .ok (.iaload, 1) := by decide +kernel
theorem dX9_isTheirs_6 : decode cX9_isTheirs 6 = .ok (.i2l, 1) := by decide +kernel
theorem dX9_isTheirs_7 : decode cX9_isTheirs 7 = .ok (.aload_n 0, 1) := by decide +kernel
theorem dX9_isTheirs_8 : decode cX9_isTheirs 8 = .ok (.getfield 38, 3) := by decide +kernel
theorem dX9_isTheirs_11 : decode cX9_isTheirs 11 = .ok (.bipush 30, 2) := by decide +kernel
theorem dX9_isTheirs_13 : decode cX9_isTheirs 13 = .ok (.iload_n 1, 1) := by decide +kernel
theorem dX9_isTheirs_14 : decode cX9_isTheirs 14 = .ok (.imul, 1) := by decide +kernel
theorem dX9_isTheirs_15 : decode cX9_isTheirs 15 = .ok (.iload_n 3, 1) := by decide +kernel
theorem dX9_isTheirs_16 : decode cX9_isTheirs 16 = .ok (.iadd, 1) := by decide +kernel
theorem dX9_isTheirs_17 : decode cX9_isTheirs 17 = .ok (.laload, 1) := by decide +kernel
theorem dX9_isTheirs_18 : decode cX9_isTheirs 18 = .ok (.lmul, 1) := by decide +kernel
theorem dX9_isTheirs_19 : decode cX9_isTheirs 19 = .ok (.lstore 4, 2) := by decide +kernel
theorem dX9_isTheirs_21 : decode cX9_isTheirs 21 = .ok (.aload_n 0, 1) := by decide +kernel
theorem dX9_isTheirs_22 : decode cX9_isTheirs 22 = .ok (.getfield 35, 3) := by decide +kernel
theorem dX9_isTheirs_25 : decode cX9_isTheirs 25 = .ok (.iload_n 2, 1) := by decide +kernel
theorem dX9_isTheirs_26 : decode cX9_isTheirs 26 = .ok (.iaload, 1) := by decide +kernel
theorem dX9_isTheirs_27 : decode cX9_isTheirs 27 = .ok (.i2l, 1) := by decide +kernel
theorem dX9_isTheirs_28 : decode cX9_isTheirs 28 = .ok (.aload_n 0, 1) := by decide +kernel
theorem dX9_isTheirs_29 : decode cX9_isTheirs 29 = .ok (.getfield 38, 3) := by decide +kernel
theorem dX9_isTheirs_32 : decode cX9_isTheirs 32 = .ok (.bipush 30, 2) := by decide +kernel
theorem dX9_isTheirs_34 : decode cX9_isTheirs 34 = .ok (.iload_n 2, 1) := by decide +kernel
theorem dX9_isTheirs_35 : decode cX9_isTheirs 35 = .ok (.imul, 1) := by decide +kernel
theorem dX9_isTheirs_36 : decode cX9_isTheirs 36 = .ok (.iload_n 3, 1) := by decide +kernel
theorem dX9_isTheirs_37 : decode cX9_isTheirs 37 = .ok (.iadd, 1) := by decide +kernel
theorem dX9_isTheirs_38 : decode cX9_isTheirs 38 = .ok (.laload, 1) := by decide +kernel
theorem dX9_isTheirs_39 : decode cX9_isTheirs 39 = .ok (.lmul, 1) := by decide +kernel
theorem dX9_isTheirs_40 : decode cX9_isTheirs 40 = .ok (.lstore 6, 2) := by decide +kernel
theorem dX9_isTheirs_42 : decode cX9_isTheirs 42 = .ok (.lload 4, 2) := by decide +kernel
theorem dX9_isTheirs_44 : decode cX9_isTheirs 44 = .ok (.aload_n 0, 1) := by decide +kernel
theorem dX9_isTheirs_45 : decode cX9_isTheirs 45 = .ok (.getfield 42, 3) := by decide +kernel
theorem dX9_isTheirs_48 : decode cX9_isTheirs 48 = .ok (.bipush 30, 2) := by decide +kernel
theorem dX9_isTheirs_50 : decode cX9_isTheirs 50 = .ok (.iload_n 2, 1) := by decide +kernel
theorem dX9_isTheirs_51 : decode cX9_isTheirs 51 = .ok (.imul, 1) := by decide +kernel
theorem dX9_isTheirs_52 : decode cX9_isTheirs 52 = .ok (.iload_n 3, 1) := by decide +kernel
theorem dX9_isTheirs_53 : decode cX9_isTheirs 53 = .ok (.iadd, 1) := by decide +kernel
theorem dX9_isTheirs_54 : decode cX9_isTheirs 54 = .ok (.laload, 1) := by decide +kernel
theorem dX9_isTheirs_55 : decode cX9_isTheirs 55 = .ok (.lmul, 1) := by decide +kernel
theorem dX9_isTheirs_56 : decode cX9_isTheirs 56 = .ok (.lload 6, 2) := by decide +kernel
theorem dX9_isTheirs_58 : decode cX9_isTheirs 58 = .ok (.aload_n 0, 1) := by decide +kernel
theorem dX9_isTheirs_59 : decode cX9_isTheirs 59 = .ok (.getfield 42, 3) := by decide +kernel
theorem dX9_isTheirs_62 : decode cX9_isTheirs 62 = .ok (.bipush 30, 2) := by decide +kernel
theorem dX9_isTheirs_64 : decode cX9_isTheirs 64 = .ok (.iload_n 1, 1) := by decide +kernel
theorem dX9_isTheirs_65 : decode cX9_isTheirs 65 = .ok (.imul, 1) := by decide +kernel
theorem dX9_isTheirs_66 : decode cX9_isTheirs 66 = .ok (.iload_n 3, 1) := by decide +kernel
theorem dX9_isTheirs_67 : decode cX9_isTheirs 67 = .ok (.iadd, 1) := by decide +kernel
